/** Each promise of the document with ordinary inputs; EdgesTest and TermsTest have the rest. */
public final class PromisesTest {
    private static final Due due = new Due();

    public static void main(String[] args) {
        newObject();
        set();
        piece();
        get();
        next();
        join();
        cut();
        copy();
        look();
        meet();
        word();
        load();
        walk();
        clear();
        text();
        octet();
        due.end();
    }

    private static void newObject() {
        due.part("promise 1");
        BitBoard x = new BitBoard();
        due.is("look", x.look(1, 0), 0);
        due.is("get", x.get(2, 17), 0);
        BitBoard y = new BitBoard();
        x.load(0, 1L, 0L, 0L);
        x.text(0);
        due.is("look of another object", y.look(0, 0), 0);
        due.is("octet of another object", y.octet(0), BitBoard.REFUSED);
    }

    private static void set() {
        due.part("promise 2");
        BitBoard x = new BitBoard();
        due.is("set 1 of a 0", x.set(1, 1, 77), 0);
        due.is("get", x.get(1, 77), 1);
        due.is("set 1 of a 1", x.set(1, 1, 77), 1);
        due.is("set 2 of a 1", x.set(1, 2, 77), 1);
        due.is("get", x.get(1, 77), 0);
        due.is("set 2 of a 0", x.set(1, 2, 77), 0);
        due.is("set 0 of a 1", x.set(1, 0, 77), 1);
        due.is("set 0 of a 0", x.set(1, 0, 77), 0);
        due.is("get", x.get(1, 77), 0);
    }

    private static void piece() {
        due.part("promise 3");
        BitBoard x = new BitBoard();
        due.is("1s over three words", x.piece(2, 1, 60, 130), 70);
        due.is("word 0", x.word(2, 0), 0xFL << 60);
        due.is("word 1", x.word(2, 1), -1L);
        due.is("word 2", x.word(2, 2), 3);
        due.is("one behind", x.piece(2, 1, 200, 201), 71);
        due.is("0s in one word", x.piece(2, 0, 70, 80), 61);
        due.is("word 1", x.word(2, 1), ~0xFFC0L);
        due.is("turned", x.piece(2, 2, 64, 128), 17);
        due.is("word 1", x.word(2, 1), 0xFFC0L);
    }

    private static void get() {
        due.part("promise 4");
        BitBoard x = new BitBoard();
        x.load(3, 5L, Long.MIN_VALUE, 1L << 31);
        for (int place = 0; place < 192; place++) {
            boolean one = place == 0 || place == 2 || place == 127 || place == 159;
            due.is("get " + place, x.get(3, place), one ? 1 : 0);
            due.is("get of another row " + place, x.get(2, place), 0);
        }
    }

    private static void next() {
        due.part("promise 5");
        BitBoard x = new BitBoard();
        x.piece(0, 1, 10, 20);
        x.piece(0, 1, 64, 200);
        x.set(0, 1, 3000);
        // Each: what, place, answer.
        int[][] calls = {
            {0, 0, 10}, {0, 15, 15}, {0, 20, 64}, {0, 63, 64}, {0, 150, 150}, {0, 200, 3000}, {0, 3001, -1},
            {1, 0, 0}, {1, 10, 20}, {1, 20, 20}, {1, 64, 200}, {1, 128, 200}, {1, 3000, 3001},
            {2, 9, -1}, {2, 10, 10}, {2, 50, 19}, {2, 150, 150}, {2, 2999, 199}, {2, 3500, 3000},
            {3, 5, 5}, {3, 15, 9}, {3, 50, 50}, {3, 64, 63}, {3, 192, 63}, {3, 200, 200}, {3, 3000, 2999},
        };
        for (int[] c : calls) {
            due.is("next(0, " + c[0] + ", " + c[1] + ")", x.next(0, c[0], c[1]), c[2]);
        }
    }

    private static void join() {
        due.part("promise 6");
        long[] results = {0x8L, 0xEL, 0x6L, 0x4L};
        for (int op = 0; op <= 3; op++) {
            BitBoard x = new BitBoard();
            x.load(0, 0xCL, 0xCL, 0xCL);
            x.load(1, 0xAL, 0xAL, 0xAL);
            due.is("join op " + op, x.join(0, op, 1), 3 * Long.bitCount(results[op]));
            for (int n = 0; n < 3; n++) {
                due.is("word " + n + " after op " + op, x.word(0, n), results[op]);
                due.is("other stays, word " + n + " after op " + op, x.word(1, n), 0xAL);
            }
        }
    }

    private static void cut() {
        due.part("promise 7");
        BitBoard x = new BitBoard();
        x.load(1, -1L, 0L, 1L);
        x.piece(0, 1, 0, 2000);
        due.is("over words", x.cut(0, 1, 60, 129), 5);
        due.is("word 0", x.word(0, 0), 15);
        due.is("word 1", x.word(0, 1), 16);
        due.is("what was behind is gone", x.look(0, 1), 69);
        due.is("whole words", x.cut(0, 1, 64, 192), 1);
        due.is("word 1", x.word(0, 1), 1);
        due.is("within a word", x.cut(0, 1, 3, 7), 4);
        due.is("word 0", x.word(0, 0), 15);
        due.is("of itself", x.cut(1, 1, 50, 140), 15);
        due.is("word 0", x.word(1, 0), 0x3FFFL);
        due.is("word 1", x.word(1, 1), 1L << 14);
    }

    private static void copy() {
        due.part("promise 8");
        BitBoard x = new BitBoard();
        x.load(0, 3L, 5L, 9L);
        due.is("copy", x.copy(3, 0), 6);
        due.is("word 1", x.word(3, 1), 5);
        due.is("same", x.meet(3, 1, 0), 1);
        x.set(3, 2, 77);
        due.is("copies are apart", x.meet(3, 1, 0), 0);
    }

    private static void look() {
        due.part("promise 9");
        BitBoard x = new BitBoard();
        x.load(1, 3L, 5L, 9L);
        due.is("how many", x.look(1, 0), 6);
        due.is("behind the last", x.look(1, 1), 132);
        due.is("none", x.look(1, 2), 0);
        due.is("none in another row", x.look(2, 2), 1);
    }

    private static void meet() {
        due.part("promise 10");
        BitBoard x = new BitBoard();
        x.load(0, 3L, 5L, 9L);
        x.load(1, 4L, 5L, 2L);
        x.load(2, 4L, 2L, 4L);
        due.is("a common 1", x.meet(0, 0, 1), 1);
        due.is("no common 1", x.meet(0, 0, 2), 0);
        due.is("not the same", x.meet(0, 1, 1), 0);
        x.load(1, 3L, 5L, 9L);
        due.is("the same", x.meet(0, 1, 1), 1);
    }

    private static void word() {
        due.part("promise 11");
        BitBoard x = new BitBoard();
        for (int n = 0; n <= 62; n++) {
            x.set(2, 1, 64 * n);
            x.set(2, 1, 64 * n + 5);
            x.set(2, 1, 64 * n + 32);
            due.is("word " + n, x.word(2, n), 1L | 1L << 5 | 1L << 32);
        }
    }

    private static void load() {
        due.part("promise 12");
        BitBoard x = new BitBoard();
        x.piece(0, 1, 0, 500);
        due.is("load", x.load(0, 3L, 5L, 9L), 6);
        due.is("word 0", x.word(0, 0), 3);
        due.is("word 1", x.word(0, 1), 5);
        due.is("word 2", x.word(0, 2), 9);
        due.is("0 behind", x.word(0, 3), 0);
    }

    private static void walk() {
        due.part("promise 13");
        BitBoard x = new BitBoard();
        for (int place : new int[] {3, 5, 63, 64, 1000}) {
            x.set(0, 1, place);
        }
        due.is("walk", x.walk(0), 3 + 5 * 2 + 63 * 3 + 64 * 4 + 1000 * 5);
    }

    private static void clear() {
        due.part("promise 14");
        BitBoard x = new BitBoard();
        x.load(0, 3L, 5L, 9L);
        x.load(1, 1L, 0L, 0L);
        due.is("clear", x.clear(0), 6);
        due.is("look", x.look(0, 0), 0);
        due.is("another row stays", x.look(1, 0), 1);
    }

    private static void text() {
        due.part("promise 15");
        BitBoard x = new BitBoard();
        for (int place : new int[] {3, 10, 42, 100, 119}) {
            x.set(0, 1, place);
        }
        due.text(x, 0, "{3, 10, 42, 100, 119}");
    }

    private static void octet() {
        due.part("promise 16");
        BitBoard x = new BitBoard();
        x.load(0, 24L, 0L, 0L);
        x.text(0);
        due.is("{", x.octet(0), 123);
        due.is("3", x.octet(1), 51);
        due.is(",", x.octet(2), 44);
        due.is("blank", x.octet(3), 32);
        due.is("4", x.octet(4), 52);
        due.is("}", x.octet(5), 125);
    }
}
