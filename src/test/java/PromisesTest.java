/** Each promise of the document: ordinary inputs, the edges that it names, and wrong inputs. */
public final class PromisesTest {
    private static final int NO = BitBoard.REFUSED;
    private static final long NO_LONG = 1L << 62;
    private static final int[] NO_ROWS = {-1, 4, 64, Integer.MIN_VALUE, Integer.MAX_VALUE};
    private static final int[] NO_PLACES = {-1, 4001, 4032, Integer.MIN_VALUE, Integer.MAX_VALUE};
    private static final int[][] NO_PIECES = {
        {-1, 5}, {0, 4002}, {101, 100}, {4001, 4000}, {4002, 4002}, {-5, -5}, {-1, -1}, {0, -1},
        {Integer.MIN_VALUE, Integer.MAX_VALUE}, {Integer.MAX_VALUE, Integer.MIN_VALUE},
        {0, Integer.MAX_VALUE}, {Integer.MIN_VALUE, 0}, {Integer.MAX_VALUE, Integer.MAX_VALUE},
    };

    private static final Due due = new Due();

    public static void main(String[] args) {
        newObject();
        objectsApart();
        set();
        setRefused();
        piece();
        pieceRefused();
        get();
        next();
        nextOfFullAndEmpty();
        nextRefused();
        join();
        joinItself();
        joinRefused();
        cut();
        cutItself();
        cutRefused();
        copy();
        look();
        meet();
        word();
        load();
        walk();
        clear();
        text();
        longestText();
        textRefused();
        octet();
        due.end();
    }

    private static void newObject() {
        due.part("promise 1");
        due.is("REFUSED", BitBoard.REFUSED, -2);
        BitBoard x = new BitBoard();
        due.is("octet(0) before any text", x.octet(0), NO);
        for (int row = 0; row < 4; row++) {
            due.is("look(0)", x.look(row, 0), 0);
            due.is("look(1)", x.look(row, 1), 0);
            due.is("look(2)", x.look(row, 2), 1);
            due.is("walk", x.walk(row), 0);
            for (int n = 0; n <= 62; n++) {
                due.is("word", x.word(row, n), 0);
            }
        }
    }

    private static void objectsApart() {
        due.part("promise 1, two objects");
        BitBoard x = new BitBoard();
        BitBoard y = new BitBoard();
        x.load(0, -1L, 0L, 0L);
        x.load(1, 1L, 0L, 0L);
        x.text(1);
        due.is("look of the other", y.look(0, 0), 0);
        due.is("octet of the other", y.octet(0), NO);
        due.is("look of another row", x.look(2, 0), 0);
    }

    private static void set() {
        due.part("promise 2");
        BitBoard x = new BitBoard();
        for (int place : new int[] {0, 1, 31, 32, 63, 64, 127, 128, 3999, 4000}) {
            due.is("set 1 of a 0", x.set(1, 1, place), 0);
            due.is("get", x.get(1, place), 1);
            due.is("look: only one", x.look(1, 0), 1);
            due.is("look: where", x.look(1, 1), place + 1);
            due.is("set 1 of a 1", x.set(1, 1, place), 1);
            due.is("get", x.get(1, place), 1);
            due.is("set 2 of a 1", x.set(1, 2, place), 1);
            due.is("get", x.get(1, place), 0);
            due.is("set 2 of a 0", x.set(1, 2, place), 0);
            due.is("get", x.get(1, place), 1);
            due.is("set 0 of a 1", x.set(1, 0, place), 1);
            due.is("get", x.get(1, place), 0);
            due.is("set 0 of a 0", x.set(1, 0, place), 0);
            due.is("look: none", x.look(1, 2), 1);
        }
        due.is("another row", x.look(0, 0), 0);
    }

    private static void setRefused() {
        due.part("promise 2, refused");
        BitBoard x = patterned();
        for (int what = 0; what <= 2; what++) {
            for (int row : NO_ROWS) {
                due.is("set of row " + row, x.set(row, what, 5), NO);
            }
            for (int place : NO_PLACES) {
                due.is("set at " + place, x.set(0, what, place), NO);
            }
        }
        for (int what : new int[] {-1, 3, Integer.MIN_VALUE, Integer.MAX_VALUE}) {
            due.is("set what " + what, x.set(0, what, 5), NO);
        }
        isPatterned(x);
    }

    private static void piece() {
        due.part("promise 3");
        BitBoard x = new BitBoard();
        due.is("1s over three words", x.piece(2, 1, 60, 130), 70);
        due.is("word 0", x.word(2, 0), 0xFL << 60);
        due.is("word 1", x.word(2, 1), -1L);
        due.is("word 2", x.word(2, 2), 3);
        due.is("the answer counts the row, not the piece", x.piece(2, 1, 200, 201), 71);
        due.is("1s over 1s", x.piece(2, 1, 60, 64), 71);
        due.is("0s in one word", x.piece(2, 0, 70, 80), 61);
        due.is("get before", x.get(2, 69), 1);
        due.is("get first", x.get(2, 70), 0);
        due.is("get last", x.get(2, 79), 0);
        due.is("get behind", x.get(2, 80), 1);
        due.is("turned", x.piece(2, 2, 64, 128), 17);
        due.is("word 1", x.word(2, 1), 0xFFC0L);
        due.is("nothing turned", x.piece(2, 2, 64, 64), 17);
        due.is("nothing set at 0", x.piece(2, 1, 0, 0), 17);
        due.is("nothing set at the end", x.piece(2, 1, 4001, 4001), 17);
        due.is("the last place", x.piece(2, 1, 4000, 4001), 18);
        due.is("word 62", x.word(2, 62), 1L << 32);
        due.is("all", x.piece(2, 1, 0, 4001), 4001);
        due.is("word 62", x.word(2, 62), (1L << 33) - 1);
        due.is("all turned", x.piece(2, 2, 0, 4001), 0);
        due.is("all turned", x.piece(2, 2, 0, 4001), 4001);
        due.is("all but the ends", x.piece(2, 0, 1, 4000), 2);
        due.is("walk", x.walk(2), 8000);
        due.is("another row", x.look(1, 0), 0);
    }

    private static void pieceRefused() {
        due.part("promise 3, refused");
        BitBoard x = patterned();
        for (int what = 0; what <= 2; what++) {
            for (int row : NO_ROWS) {
                due.is("piece of row " + row, x.piece(row, what, 3, 9), NO);
            }
            for (int[] p : NO_PIECES) {
                due.is("piece " + p[0] + " to " + p[1], x.piece(0, what, p[0], p[1]), NO);
            }
        }
        for (int what : new int[] {-1, 3, Integer.MIN_VALUE, Integer.MAX_VALUE}) {
            due.is("piece what " + what, x.piece(0, what, 3, 9), NO);
            due.is("empty piece what " + what, x.piece(0, what, 3, 3), NO);
        }
        isPatterned(x);
    }

    private static void get() {
        due.part("promise 4");
        BitBoard x = new BitBoard();
        x.load(3, 5L, Long.MIN_VALUE, 1L << 31);
        x.set(3, 1, 4000);
        int[] ones = {0, 2, 127, 159, 4000};
        int[] zeros = {1, 3, 31, 32, 63, 64, 126, 128, 158, 160, 191, 192, 3999};
        for (int place : ones) {
            due.is("get " + place, x.get(3, place), 1);
            due.is("get of another row " + place, x.get(2, place), 0);
        }
        for (int place : zeros) {
            due.is("get " + place, x.get(3, place), 0);
        }
        for (int place : NO_PLACES) {
            due.is("get " + place, x.get(3, place), NO);
        }
        for (int row : NO_ROWS) {
            due.is("get of row " + row, x.get(row, 0), NO);
        }
    }

    private static void next() {
        due.part("promise 5");
        BitBoard x = new BitBoard();
        x.piece(0, 1, 10, 20);
        x.piece(0, 1, 64, 200);
        x.set(0, 1, 3000);
        // Each: what, place, answer.
        int[][] calls = {
            {0, 0, 10}, {0, 10, 10}, {0, 19, 19}, {0, 20, 64}, {0, 63, 64}, {0, 64, 64},
            {0, 199, 199}, {0, 200, 3000}, {0, 3000, 3000}, {0, 3001, -1}, {0, 4000, -1},
            {1, 0, 0}, {1, 9, 9}, {1, 10, 20}, {1, 19, 20}, {1, 20, 20}, {1, 63, 63},
            {1, 64, 200}, {1, 127, 200}, {1, 128, 200}, {1, 3000, 3001}, {1, 4000, 4000},
            {2, 0, -1}, {2, 9, -1}, {2, 10, 10}, {2, 19, 19}, {2, 20, 19}, {2, 63, 19},
            {2, 64, 64}, {2, 199, 199}, {2, 200, 199}, {2, 2999, 199}, {2, 3000, 3000}, {2, 4000, 3000},
            {3, 0, 0}, {3, 9, 9}, {3, 10, 9}, {3, 19, 9}, {3, 20, 20}, {3, 63, 63}, {3, 64, 63},
            {3, 191, 63}, {3, 192, 63}, {3, 199, 63}, {3, 200, 200}, {3, 3000, 2999}, {3, 4000, 4000},
        };
        for (int[] c : calls) {
            due.is("next(0, " + c[0] + ", " + c[1] + ")", x.next(0, c[0], c[1]), c[2]);
        }
    }

    private static void nextOfFullAndEmpty() {
        due.part("promise 5, full and empty rows");
        BitBoard x = new BitBoard();
        x.piece(0, 1, 0, 4001);
        for (int place : new int[] {0, 1, 63, 64, 2000, 3967, 3968, 3999, 4000}) {
            due.is("full, 0 at " + place, x.next(0, 0, place), place);
            due.is("full, 1 at " + place, x.next(0, 1, place), 4001);
            due.is("full, 2 at " + place, x.next(0, 2, place), place);
            due.is("full, 3 at " + place, x.next(0, 3, place), -1);
            due.is("empty, 0 at " + place, x.next(1, 0, place), -1);
            due.is("empty, 1 at " + place, x.next(1, 1, place), place);
            due.is("empty, 2 at " + place, x.next(1, 2, place), -1);
            due.is("empty, 3 at " + place, x.next(1, 3, place), place);
        }
        x.set(0, 0, 4000);
        due.is("the 0 at 4000", x.next(0, 1, 0), 4000);
        x.set(0, 0, 0);
        due.is("the 0 at 0", x.next(0, 3, 3999), 0);
    }

    private static void nextRefused() {
        due.part("promise 5, refused");
        BitBoard x = patterned();
        for (int what = 0; what <= 3; what++) {
            for (int row : NO_ROWS) {
                due.is("next of row " + row, x.next(row, what, 5), NO);
            }
            for (int place : NO_PLACES) {
                due.is("next at " + place, x.next(0, what, place), NO);
            }
        }
        for (int what : new int[] {-1, 4, Integer.MIN_VALUE, Integer.MAX_VALUE}) {
            due.is("next what " + what, x.next(0, what, 5), NO);
        }
        isPatterned(x);
    }

    private static void join() {
        due.part("promise 6");
        long[] results = {0x8L, 0xEL, 0x6L, 0x4L};
        for (int op = 0; op <= 3; op++) {
            BitBoard x = new BitBoard();
            x.load(0, 0xCL, 0xCL, 0xCL);
            x.load(1, 0xAL, 0xAL, 0xAL);
            x.set(0, 1, 4000);
            x.set(1, 1, 3999);
            int far = op == 0 ? 0 : op == 3 ? 1 : 2;
            int ones = 3 * Long.bitCount(results[op]) + far;
            due.is("join op " + op, x.join(0, op, 1), ones);
            for (int n = 0; n < 3; n++) {
                due.is("word " + n + " after op " + op, x.word(0, n), results[op]);
                due.is("other stays, word " + n + " after op " + op, x.word(1, n), 0xAL);
            }
            due.is("4000 after op " + op, x.get(0, 4000), op == 0 ? 0 : 1);
            due.is("3999 after op " + op, x.get(0, 3999), op == 1 || op == 2 ? 1 : 0);
            due.is("other's count stays", x.look(1, 0), 7);
        }
    }

    private static void joinItself() {
        due.part("promise 6, with itself");
        BitBoard x = patterned();
        int ones = x.look(0, 0);
        due.is("and", x.join(0, 0, 0), ones);
        due.is("or", x.join(0, 1, 0), ones);
        isPatterned(x);
        due.is("but one", x.join(0, 2, 0), 0);
        due.is("look", x.look(0, 2), 1);
        due.is("and not", x.join(1, 3, 1), 0);
        due.is("look", x.look(1, 2), 1);
    }

    private static void joinRefused() {
        due.part("promise 6, refused");
        BitBoard x = patterned();
        for (int op = 0; op <= 3; op++) {
            for (int row : NO_ROWS) {
                due.is("join of row " + row, x.join(row, op, 1), NO);
                due.is("join with row " + row, x.join(0, op, row), NO);
            }
        }
        for (int op : new int[] {-1, 4, Integer.MIN_VALUE, Integer.MAX_VALUE}) {
            due.is("join op " + op, x.join(0, op, 1), NO);
        }
        isPatterned(x);
    }

    private static void cut() {
        due.part("promise 7");
        BitBoard x = new BitBoard();
        x.load(1, -1L, 0L, 1L);
        x.set(1, 1, 4000);
        x.piece(0, 1, 0, 4001);
        due.is("over words", x.cut(0, 1, 60, 129), 5);
        due.is("word 0", x.word(0, 0), 15);
        due.is("word 1", x.word(0, 1), 16);
        due.is("what was behind is gone", x.look(0, 1), 69);
        due.is("to is not in it", x.cut(0, 1, 60, 128), 4);
        due.is("whole words", x.cut(0, 1, 64, 192), 1);
        due.is("word 1", x.word(0, 1), 1);
        due.is("below a word's length", x.cut(0, 1, 3, 7), 4);
        due.is("word 0", x.word(0, 0), 15);
        due.is("the last place", x.cut(0, 1, 4000, 4001), 1);
        due.is("get", x.get(0, 0), 1);
        due.is("up to the end", x.cut(0, 1, 1, 4001), 65);
        due.is("look", x.look(0, 1), 4000);
        due.is("all", x.cut(0, 1, 0, 4001), 66);
        due.is("same", x.meet(0, 1, 1), 1);
        due.is("all but the last", x.cut(0, 1, 0, 4000), 65);
        due.is("nothing", x.cut(0, 1, 7, 7), 0);
        due.is("look", x.look(0, 2), 1);
        due.is("nothing at the end", x.cut(0, 1, 4001, 4001), 0);
        due.is("other stays", x.look(1, 0), 66);
    }

    private static void cutItself() {
        due.part("promise 7, itself");
        for (int from : new int[] {0, 1, 63, 64, 65, 500}) {
            for (int length : new int[] {0, 1, 63, 64, 65, 3000, 3501}) {
                BitBoard x = new BitBoard();
                for (int place = 0; place <= 4000; place += 37) {
                    x.set(0, 1, place);
                }
                x.copy(1, 0);
                int to = from + length;
                int ones = x.cut(2, 1, from, to);
                due.is("cut of itself at " + from + ", " + length, x.cut(0, 0, from, to), ones);
                due.is("as cut of another at " + from + ", " + length, x.meet(0, 1, 2), 1);
                int first = (from + 36) / 37 * 37;
                int due1 = first < to ? first - from : -1;
                due.is("first 1 of cut at " + from + ", " + length, x.next(0, 0, 0), due1);
            }
        }
    }

    private static void cutRefused() {
        due.part("promise 7, refused");
        BitBoard x = patterned();
        for (int row : NO_ROWS) {
            due.is("cut of row " + row, x.cut(row, 1, 3, 9), NO);
            due.is("cut from row " + row, x.cut(0, row, 3, 9), NO);
        }
        for (int[] p : NO_PIECES) {
            due.is("cut " + p[0] + " to " + p[1], x.cut(0, 1, p[0], p[1]), NO);
            due.is("cut of itself " + p[0] + " to " + p[1], x.cut(0, 0, p[0], p[1]), NO);
        }
        isPatterned(x);
    }

    private static void copy() {
        due.part("promise 8");
        BitBoard x = patterned();
        for (int row : NO_ROWS) {
            due.is("copy to row " + row, x.copy(row, 0), NO);
            due.is("copy of row " + row, x.copy(0, row), NO);
        }
        int ones = x.look(0, 0);
        due.is("copy of itself", x.copy(0, 0), ones);
        isPatterned(x);
        due.is("copy", x.copy(3, 0), ones);
        due.is("same", x.meet(3, 1, 0), 1);
        due.is("the last place too", x.get(3, 4000), 1);
        x.set(3, 2, 77);
        due.is("copies are apart", x.meet(3, 1, 0), 0);
        x.set(3, 2, 77);
        isPatterned(x);
        due.is("copy of an empty row", x.copy(3, 2), 0);
        due.is("look", x.look(3, 2), 1);
    }

    private static void look() {
        due.part("promise 9");
        BitBoard x = new BitBoard();
        for (int place : new int[] {0, 63, 64, 191, 192, 3968, 4000}) {
            x.piece(1, 1, 0, place + 1);
            due.is("how many", x.look(1, 0), place + 1);
            due.is("behind the last", x.look(1, 1), place + 1);
            due.is("none", x.look(1, 2), 0);
            x.clear(1);
            x.set(1, 1, place);
            due.is("how many", x.look(1, 0), 1);
            due.is("behind the last", x.look(1, 1), place + 1);
            due.is("none", x.look(1, 2), 0);
            x.clear(1);
            due.is("how many", x.look(1, 0), 0);
            due.is("behind the last", x.look(1, 1), 0);
            due.is("none", x.look(1, 2), 1);
        }
        for (int what : new int[] {-1, 3, Integer.MIN_VALUE, Integer.MAX_VALUE}) {
            due.is("look what " + what, x.look(1, what), NO);
        }
        for (int row : NO_ROWS) {
            for (int what = 0; what <= 2; what++) {
                due.is("look of row " + row, x.look(row, what), NO);
            }
        }
    }

    private static void meet() {
        due.part("promise 10");
        BitBoard x = new BitBoard();
        due.is("empty rows have no 1", x.meet(0, 0, 1), 0);
        due.is("empty rows are the same", x.meet(0, 1, 1), 1);
        for (int place : new int[] {0, 63, 64, 4000}) {
            x.set(0, 1, place);
            due.is("no common 1", x.meet(0, 0, 1), 0);
            due.is("not the same", x.meet(0, 1, 1), 0);
            due.is("not the same, from the other side", x.meet(1, 1, 0), 0);
            due.is("itself has", x.meet(0, 0, 0), 1);
            due.is("itself is", x.meet(0, 1, 0), 1);
            x.set(1, 1, place);
            due.is("a common 1", x.meet(0, 0, 1), 1);
            due.is("the same", x.meet(0, 1, 1), 1);
            x.set(1, 1, 2000);
            due.is("a common 1 still", x.meet(0, 0, 1), 1);
            due.is("not the same", x.meet(0, 1, 1), 0);
            x.clear(0);
            x.clear(1);
        }
        due.is("an empty row with itself", x.meet(0, 0, 0), 0);
        for (int what : new int[] {-1, 2, Integer.MIN_VALUE, Integer.MAX_VALUE}) {
            due.is("meet what " + what, x.meet(0, what, 1), NO);
        }
        for (int row : NO_ROWS) {
            for (int what = 0; what <= 1; what++) {
                due.is("meet of row " + row, x.meet(row, what, 0), NO);
                due.is("meet with row " + row, x.meet(0, what, row), NO);
                due.is("meet of row with itself " + row, x.meet(row, what, row), NO);
            }
        }
    }

    private static void word() {
        due.part("promise 11");
        BitBoard x = new BitBoard();
        for (int n = 0; n <= 62; n++) {
            x.set(2, 1, 64 * n);
            x.set(2, 1, 64 * n + 5);
            x.set(2, 1, 64 * n + 32);
            due.is("word " + n, x.word(2, n), 1L | 1L << 5 | 1L << 32);
        }
        x.set(2, 1, 63);
        due.is("the last is the highest", x.word(2, 0), 1L | 1L << 5 | 1L << 32 | 1L << 63);
        x.piece(2, 1, 0, 4001);
        due.is("a full word", x.word(2, 61), -1L);
        due.is("the last word ends at 4000", x.word(2, 62), 0x1FFFFFFFFL);
        for (int n : new int[] {-1, 63, 64, Integer.MIN_VALUE, Integer.MAX_VALUE}) {
            due.is("word " + n, x.word(2, n), NO_LONG);
        }
        for (int row : NO_ROWS) {
            due.is("word of row " + row, x.word(row, 0), NO_LONG);
        }
    }

    private static void load() {
        due.part("promise 12");
        BitBoard x = new BitBoard();
        x.piece(0, 1, 0, 4001);
        due.is("load", x.load(0, 1L, -1L, Long.MIN_VALUE), 66);
        due.is("word 0", x.word(0, 0), 1L);
        due.is("word 1", x.word(0, 1), -1L);
        due.is("word 2", x.word(0, 2), Long.MIN_VALUE);
        due.is("0 behind", x.look(0, 1), 192);
        for (int n = 3; n <= 62; n++) {
            due.is("0 behind", x.word(0, n), 0L);
        }
        due.is("full", x.load(0, -1L, -1L, -1L), 192);
        due.is("empty", x.load(0, 0L, 0L, 0L), 0);
        due.is("look", x.look(0, 2), 1);
        due.is("another row", x.look(1, 2), 1);
        BitBoard y = patterned();
        for (int row : NO_ROWS) {
            due.is("load of row " + row, y.load(row, 7L, 7L, 7L), NO);
        }
        isPatterned(y);
    }

    private static void walk() {
        due.part("promise 13");
        BitBoard x = new BitBoard();
        due.is("none", x.walk(0), 0);
        x.set(0, 1, 0);
        due.is("place 0 weighs nothing", x.walk(0), 0);
        x.set(0, 1, 5);
        due.is("but is counted", x.walk(0), 10);
        x.set(0, 1, 63);
        x.set(0, 1, 64);
        x.set(0, 1, 4000);
        due.is("over words", x.walk(0), 5 * 2 + 63 * 3 + 64 * 4 + 4000 * 5);
        due.is("another row", x.walk(1), 0);
        x.piece(1, 1, 0, 4001);
        long sum = 0;
        for (long place = 0; place <= 4000; place++) {
            sum += place * (place + 1);
        }
        due.is("all", x.walk(1), sum);
        due.is("it changes nothing", x.look(1, 0), 4001);
        for (int row : NO_ROWS) {
            due.is("walk of row " + row, x.walk(row), NO_LONG);
        }
    }

    private static void clear() {
        due.part("promise 14");
        BitBoard x = patterned();
        for (int row : NO_ROWS) {
            due.is("clear of row " + row, x.clear(row), NO);
        }
        isPatterned(x);
        int ones = x.look(0, 0);
        due.is("clear", x.clear(0), ones);
        due.is("look", x.look(0, 2), 1);
        due.is("clear of an empty row", x.clear(0), 0);
        due.is("another row stays", x.look(1, 2), 0);
        x.piece(0, 1, 0, 4001);
        due.is("clear of a full row", x.clear(0), 4001);
        due.is("look", x.look(0, 1), 0);
    }

    private static void text() {
        due.part("promise 15");
        BitBoard x = new BitBoard();
        isText(x, 0, "{}");
        x.set(0, 1, 0);
        isText(x, 0, "{0}");
        x.set(0, 1, 9);
        isText(x, 0, "{0, 9}");
        x.set(0, 1, 10);
        x.set(0, 1, 99);
        isText(x, 0, "{0, 9, 10, 99}");
        x.set(0, 1, 100);
        x.set(0, 1, 109);
        x.set(0, 1, 127);
        x.set(0, 0, 0);
        isText(x, 0, "{9, 10, 99, 100, 109, 127}");
        x.set(1, 1, 127);
        isText(x, 1, "{127}");
        isText(x, 2, "{}");
    }

    private static void longestText() {
        due.part("promise 15, the longest text");
        BitBoard x = new BitBoard();
        x.load(0, -1L, -1L, 0L);
        StringBuilder all = new StringBuilder("{0");
        for (int place = 1; place < 128; place++) {
            all.append(", ").append(place);
        }
        all.append('}');
        due.is("text", x.text(0), all.length());
        // An object has 512 calls and this text 530 signs: the signs are asked of two objects.
        BitBoard y = new BitBoard();
        y.load(0, -1L, -1L, 0L);
        y.text(0);
        for (int k = 0; k < 270; k++) {
            due.is("octet " + k, x.octet(k), all.charAt(k));
        }
        for (int k = 270; k < all.length(); k++) {
            due.is("octet " + k, y.octet(k), all.charAt(k));
        }
        due.is("octet behind", y.octet(all.length()), NO);
    }

    private static void textRefused() {
        due.part("promise 15, refused");
        BitBoard x = new BitBoard();
        x.load(0, 6L, 0L, 0L);
        for (int place : new int[] {128, 191, 192, 4000}) {
            isText(x, 0, "{1, 2}");
            x.load(1, 9L, 0L, 0L);
            x.set(1, 1, place);
            due.is("text with a 1 at " + place, x.text(1), NO);
            areSigns(x, "{1, 2}");
        }
        for (int row : NO_ROWS) {
            due.is("text of row " + row, x.text(row), NO);
        }
        areSigns(x, "{1, 2}");
        BitBoard y = new BitBoard();
        y.set(0, 1, 128);
        due.is("text", y.text(0), NO);
        due.is("no text yet", y.octet(0), NO);
    }

    private static void octet() {
        due.part("promise 16");
        BitBoard x = new BitBoard();
        for (int k : new int[] {0, 1, -1, Integer.MIN_VALUE, Integer.MAX_VALUE}) {
            due.is("octet before any text", x.octet(k), NO);
        }
        x.load(0, 0L, 1L << 63, 0L);
        x.text(0);
        areSigns(x, "{127}");
        x.clear(0);
        areSigns(x, "{127}");
        x.text(0);
        areSigns(x, "{}");
        for (int k : new int[] {2, 3, 4, 5, 529, 530, 531, -1, Integer.MIN_VALUE, Integer.MAX_VALUE}) {
            due.is("octet " + k, x.octet(k), NO);
        }
    }

    private static void isText(BitBoard x, int row, String want) {
        due.is("text " + want, x.text(row), want.length());
        areSigns(x, want);
    }

    private static void areSigns(BitBoard x, String want) {
        for (int k = 0; k < want.length(); k++) {
            due.is("octet " + k + " of " + want, x.octet(k), want.charAt(k));
        }
        due.is("octet behind " + want, x.octet(want.length()), NO);
        due.is("octet before " + want, x.octet(-1), NO);
    }

    private static BitBoard patterned() {
        BitBoard x = new BitBoard();
        x.load(0, 0x123456789ABCDEFL, 0xF0F0L, Long.MIN_VALUE);
        x.set(0, 1, 4000);
        x.load(1, 0xFEDCBA9876543210L, -1L, 1L);
        x.set(1, 1, 3999);
        return x;
    }

    private static void isPatterned(BitBoard x) {
        due.is("word(0, 0)", x.word(0, 0), 0x123456789ABCDEFL);
        due.is("word(0, 1)", x.word(0, 1), 0xF0F0L);
        due.is("word(0, 2)", x.word(0, 2), Long.MIN_VALUE);
        due.is("word(0, 62)", x.word(0, 62), 1L << 32);
        due.is("look(0, 0)", x.look(0, 0), 42);
        due.is("word(1, 0)", x.word(1, 0), 0xFEDCBA9876543210L);
        due.is("word(1, 1)", x.word(1, 1), -1L);
        due.is("word(1, 2)", x.word(1, 2), 1L);
        due.is("word(1, 62)", x.word(1, 62), 1L << 31);
        due.is("look(1, 0)", x.look(1, 0), 98);
        due.is("look(2, 2)", x.look(2, 2), 1);
    }
}
