/** The boundary cases of promises 1 to 16, a test for each sentence that names one. */
public final class EdgesTest {
    private static final int NO = BitBoard.REFUSED;
    private static final int MIN = Integer.MIN_VALUE;
    private static final int MAX = Integer.MAX_VALUE;
    /** Both sides of the borders between words, and the limits. */
    private static final int[] PLACES = {0, 1, 31, 32, 63, 64, 127, 128, 191, 192, 3967, 3968, 3999, 4000};

    private static final Due due = new Due();

    public static void main(String[] args) {
        newObject();
        setWhats();
        setAnotherWhat();
        pieceTurnedTwice();
        pieceCountsTheRow();
        pieceAnotherWhat();
        getABit();
        nextFirst1();
        nextFirst0();
        nextFirst0Behind4000();
        nextLast1();
        nextLast0();
        nextNone();
        nextAnotherWhat();
        joinEmptyAndFull();
        joinItself();
        joinAnotherOp();
        cutItself();
        cutBeginsAt0();
        copyEmptyAndFull();
        copyItself();
        lookEmptyAndFull();
        lookBehindTheLast1();
        lookAnotherWhat();
        meetEmptyAndFull();
        meetAtOnePlace();
        meetAnotherWhat();
        wordFirstIsLowest();
        wordEnds();
        wordAnotherN();
        loadLowestFirst();
        load0Behind();
        walkEmptyAndFull();
        walkRank();
        clearEmptyAndFull();
        textWithoutAny();
        textBetweenTwo();
        textDigits();
        textLongest();
        textAt128();
        textLatestStays();
        octetEnds();
        octetNoText();
        octetShorterText();
        octetIsOfTheText();
        due.end();
    }

    private static void newObject() {
        due.part("promise 1: the state that the terms give");
        due.is("REFUSED", BitBoard.REFUSED, -2);
        BitBoard used = new BitBoard();
        for (int row = 0; row <= 3; row++) {
            used.piece(row, 1, 0, 100);
            used.text(row);
        }
        BitBoard x = new BitBoard();
        for (int row = 0; row <= 3; row++) {
            due.is("how many", x.look(row, 0), 0);
            due.is("behind the last", x.look(row, 1), 0);
            due.is("none", x.look(row, 2), 1);
            due.is("same as row 0", x.meet(row, 1, 0), 1);
        }
        due.is("no text", x.octet(0), NO);
        x.piece(1, 1, 0, 4001);
        due.is("the used one is apart", used.look(1, 0), 100);
    }

    private static void setWhats() {
        due.part("promise 2: becomes 0, 1, or is turned: what it was");
        BitBoard x = new BitBoard();
        for (int place : PLACES) {
            // Each: what, the bit that it was, the bit that it is then.
            int[][] calls = {
                {0, 0, 0}, {1, 0, 1}, {1, 1, 1}, {0, 1, 0}, {2, 0, 1}, {2, 1, 0}, {1, 0, 1}, {2, 1, 0},
            };
            for (int[] c : calls) {
                due.is("set " + c[0] + " at " + place, x.set(2, c[0], place), c[1]);
                due.is("get after set " + c[0] + " at " + place, x.get(2, place), c[2]);
            }
            due.is("no other bit is set", x.look(2, 0), 0);
        }
        x.piece(2, 1, 0, 4001);
        for (int place : PLACES) {
            due.is("set 0 at " + place, x.set(2, 0, place), 1);
            due.is("no other bit is cleared", x.look(2, 0), 4000);
            due.is("set 2 at " + place, x.set(2, 2, place), 0);
            due.is("no other bit is turned", x.look(2, 0), 4001);
        }
    }

    private static void setAnotherWhat() {
        due.part("promise 2: refused for another what");
        for (int what : new int[] {-1, 3, 4, 256, MIN, MAX}) {
            for (int place : new int[] {0, 5, 4000}) {
                Scene.refused(due, "set " + what + " at " + place, x -> x.set(0, what, place));
            }
        }
    }

    private static void pieceTurnedTwice() {
        due.part("promise 3: become 0, 1, or are turned");
        BitBoard x = new BitBoard();
        x.load(0, 0x5555L, 0L, 0L);
        due.is("turned", x.piece(0, 2, 0, 16), 8);
        due.is("word 0", x.word(0, 0), 0xAAAAL);
        due.is("turned again", x.piece(0, 2, 0, 16), 8);
        due.is("word 0", x.word(0, 0), 0x5555L);
        due.is("to 1", x.piece(0, 1, 4, 12), 12);
        due.is("word 0", x.word(0, 0), 0x5FF5L);
        due.is("to 0", x.piece(0, 0, 2, 14), 2);
        due.is("word 0", x.word(0, 0), 0x4001L);
        due.is("all turned", x.piece(0, 2, 0, 4001), 3999);
        due.is("all turned back", x.piece(0, 2, 0, 4001), 2);
    }

    private static void pieceCountsTheRow() {
        due.part("promise 3: how many 1s the row has then");
        BitBoard x = new BitBoard();
        due.is("none of an empty row", x.piece(1, 0, 0, 4001), 0);
        due.is("the first", x.piece(1, 1, 0, 1), 1);
        due.is("the last, too", x.piece(1, 1, 4000, 4001), 2);
        due.is("1s over 1s", x.piece(1, 1, 4000, 4001), 2);
        due.is("a piece without any, cleared", x.piece(1, 0, 1, 4000), 2);
        due.is("an empty piece", x.piece(1, 1, 2000, 2000), 2);
        due.is("all", x.piece(1, 1, 0, 4001), 4001);
        due.is("all but one", x.piece(1, 0, 64, 65), 4000);
        due.is("but one, turned", x.piece(1, 2, 0, 4001), 1);
        due.is("another row stays", x.look(0, 0), 0);
    }

    private static void pieceAnotherWhat() {
        due.part("promise 3: refused for another what");
        for (int what : new int[] {-1, 3, 4, 256, MIN, MAX}) {
            Scene.refused(due, "piece " + what, x -> x.piece(0, what, 3, 99));
            Scene.refused(due, "the whole row, " + what, x -> x.piece(3, what, 0, 4001));
            Scene.refused(due, "an empty piece, " + what, x -> x.piece(0, what, 3, 3));
        }
    }

    private static void getABit() {
        due.part("promise 4: a bit");
        for (int one : PLACES) {
            BitBoard x = new BitBoard();
            x.set(0, 1, one);
            x.piece(1, 1, 0, 4001);
            x.set(1, 0, one);
            for (int place : PLACES) {
                due.is("the only 1 at " + one + ", get " + place, x.get(0, place), place == one ? 1 : 0);
                due.is("the only 0 at " + one + ", get " + place, x.get(1, place), place == one ? 0 : 1);
            }
        }
    }

    private static void nextFirst1() {
        due.part("promise 5: the first 1 at a place or behind it");
        nextFinds(0, 1, 0, 4000);
    }

    private static void nextFirst0() {
        due.part("promise 5: the first 0 at a place or behind it");
        nextFinds(1, 0, 0, 4000);
    }

    private static void nextFirst0Behind4000() {
        due.part("promise 5: 4001, if all from it to 4000 are 1");
        for (int from : PLACES) {
            BitBoard x = new BitBoard();
            x.piece(0, 1, from, 4001);
            x.piece(1, 1, 0, 4001);
            due.is("1s from " + from + " on", x.next(0, 1, from), 4001);
            due.is("a full row from " + from + " on", x.next(1, 1, from), 4001);
            due.is("from 4000 on", x.next(0, 1, 4000), 4001);
            due.is("a 0 before " + from, x.next(0, 1, 0), from == 0 ? 4001 : 0);
            x.set(0, 0, 4000);
            due.is("all but 4000 are 1", x.next(0, 1, from), 4000);
        }
    }

    private static void nextLast1() {
        due.part("promise 5: the last 1 at a place or before it");
        nextFinds(2, 1, 4000, 0);
    }

    private static void nextLast0() {
        due.part("promise 5: the last 0 at a place or before it");
        nextFinds(3, 0, 4000, 0);
    }

    /** A row with the sought bit at one place and at the end of the search, and nowhere else. */
    private static void nextFinds(int what, int sought, int start, int end) {
        int step = start < end ? 1 : -1;
        for (int at : PLACES) {
            BitBoard x = new BitBoard();
            x.piece(0, 1 - sought, 0, 4001);
            x.set(0, sought, at);
            x.set(0, sought, end);
            due.is("the one at " + at + ", from it", x.next(0, what, at), at);
            due.is("the one at " + at + ", from " + start, x.next(0, what, start), at);
            if (at != start) {
                due.is("the one at " + at + ", from the place next to it", x.next(0, what, at - step), at);
            }
            if (at != end) {
                due.is("past the one at " + at, x.next(0, what, at + step), end);
            }
        }
    }

    private static void nextNone() {
        due.part("promise 5: -1 if there is none");
        for (int place : PLACES) {
            BitBoard x = new BitBoard();
            due.is("no 1 from " + place + " on", x.next(0, 0, place), -1);
            due.is("no 1 up to " + place, x.next(0, 2, place), -1);
            x.piece(1, 1, 0, place);
            due.is("1s only before " + place, x.next(1, 0, place), -1);
            x.piece(2, 1, 0, 4001);
            x.piece(2, 0, 0, place + 1);
            due.is("1s only behind " + place, x.next(2, 2, place), -1);
            x.piece(3, 1, 0, place + 1);
            due.is("no 0 up to " + place, x.next(3, 3, place), -1);
            x.piece(3, 1, 0, 4001);
            due.is("no 0 in a full row up to " + place, x.next(3, 3, place), -1);
        }
    }

    private static void nextAnotherWhat() {
        due.part("promise 5: refused for another what");
        for (int what : new int[] {-1, 4, 5, 256, MIN, MAX}) {
            for (int row = 0; row <= 3; row++) {
                int r = row;
                Scene.refused(due, "next " + what + " of " + r, x -> x.next(r, what, 0));
                Scene.refused(due, "next " + what + " of " + r, x -> x.next(r, what, 4000));
            }
        }
    }

    private static void joinEmptyAndFull() {
        due.part("promise 6: and, or, but one of them, and not");
        // Each: row's piece behind 0, other's, and what ops 0 to 3 leave.
        int[][] cases = {
            {0, 0, 0, 0, 0, 0}, {0, 4001, 0, 4001, 4001, 0}, {4001, 0, 0, 4001, 4001, 4001},
            {4001, 4001, 4001, 4001, 0, 0}, {64, 65, 64, 65, 1, 0}, {65, 64, 64, 65, 1, 1},
            {4000, 4001, 4000, 4001, 1, 0}, {4001, 4000, 4000, 4001, 1, 1}, {1, 4001, 1, 4001, 4000, 0},
        };
        for (int[] c : cases) {
            BitBoard x = new BitBoard();
            for (int op = 0; op <= 3; op++) {
                x.clear(0);
                x.clear(1);
                x.piece(0, 1, 0, c[0]);
                x.piece(1, 1, 0, c[1]);
                String name = "join " + op + " of " + c[0] + " and " + c[1];
                due.is(name, x.join(0, op, 1), c[2 + op]);
                due.is("how many after " + name, x.look(0, 0), c[2 + op]);
                due.is("other after " + name, x.look(1, 0), c[1]);
            }
        }
    }

    private static void joinItself() {
        due.part("promise 6: a row with itself");
        for (int[] c : new int[][] {{0, 0}, {0, 4001}, {64, 128}, {63, 65}, {4000, 4001}}) {
            BitBoard x = new BitBoard();
            int ones = c[1] - c[0];
            x.piece(3, 1, c[0], c[1]);
            x.copy(0, 3);
            due.is("and", x.join(3, 0, 3), ones);
            due.is("or", x.join(3, 1, 3), ones);
            due.is("as before", x.meet(3, 1, 0), 1);
            due.is("but one of them", x.join(3, 2, 3), 0);
            due.is("none", x.look(3, 2), 1);
            due.is("and not", x.join(0, 3, 0), 0);
            due.is("none", x.look(0, 2), 1);
        }
    }

    private static void joinAnotherOp() {
        due.part("promise 6: refused for another op");
        for (int op : new int[] {-1, 4, 5, 256, MIN, MAX}) {
            Scene.refused(due, "join " + op, x -> x.join(0, op, 1));
            Scene.refused(due, "join with itself " + op, x -> x.join(0, op, 0));
            Scene.refused(due, "join with an empty row " + op, x -> x.join(3, op, 2));
        }
    }

    private static void cutItself() {
        due.part("promise 7: or itself");
        BitBoard x = new BitBoard();
        x.piece(0, 1, 0, 4001);
        due.is("the whole row", x.cut(0, 0, 0, 4001), 4001);
        int left = 4001;
        for (int by : new int[] {1, 63, 64, 65, 128, 1000}) {
            left -= by;
            due.is("all but the first " + by, x.cut(0, 0, by, 4001), left);
            due.is("it ends there", x.look(0, 1), left);
            due.is("word 0 is full", x.word(0, 0), -1L);
        }
        due.is("all but the last", x.cut(0, 0, 0, left - 1), left - 1);
        due.is("the first", x.cut(0, 0, 0, 1), 1);
        due.is("word 0", x.word(0, 0), 1);
        due.is("nothing", x.cut(0, 0, 1, 1), 0);
        due.is("none", x.look(0, 2), 1);
    }

    private static void cutBeginsAt0() {
        due.part("promise 7: which begins at its place 0, and all else is gone");
        for (int place : PLACES) {
            BitBoard x = new BitBoard();
            x.set(0, 1, place);
            x.piece(1, 1, 0, 4001);
            due.is("the bit at " + place, x.cut(1, 0, place, place + 1), 1);
            due.is("is at 0", x.get(1, 0), 1);
            due.is("alone", x.look(1, 1), 1);
            x.piece(1, 1, 0, 4001);
            due.is("what is before " + place, x.cut(1, 0, 0, place), 0);
            due.is("none", x.look(1, 2), 1);
            due.is("from " + place + " to the end", x.cut(1, 0, place, 4001), 1);
            due.is("from before " + place, x.cut(1, 0, Math.max(place - 1, 0), 4001), 1);
            due.is("is at 1", x.look(1, 1), place == 0 ? 1 : 2);
            due.is("the other stays", x.look(0, 1), place + 1);
        }
    }

    private static void copyEmptyAndFull() {
        due.part("promise 8: row becomes as other");
        for (int place : PLACES) {
            BitBoard x = new BitBoard();
            x.set(0, 1, place);
            x.piece(1, 1, 0, 4001);
            due.is("over a full row", x.copy(1, 0), 1);
            due.is("the 1 at " + place, x.get(1, place), 1);
            due.is("the same", x.meet(0, 1, 1), 1);
            x.set(1, 2, place);
            due.is("the other is apart", x.get(0, place), 1);
            due.is("an empty row", x.copy(0, 1), 0);
            due.is("none", x.look(0, 2), 1);
            x.piece(1, 1, 0, 4001);
            due.is("a full row", x.copy(0, 1), 4001);
            due.is("the same", x.meet(0, 1, 1), 1);
        }
    }

    private static void copyItself() {
        due.part("promise 8: a row as itself");
        for (int to : new int[] {0, 1, 64, 4001}) {
            BitBoard x = new BitBoard();
            x.piece(2, 1, 0, to);
            due.is("copy", x.copy(2, 2), to);
            due.is("how many", x.look(2, 0), to);
            due.is("behind the last", x.look(2, 1), to);
        }
    }

    private static void lookEmptyAndFull() {
        due.part("promise 9: how many 1s, and whether it has none (1, else 0)");
        BitBoard x = new BitBoard();
        due.is("how many of an empty row", x.look(0, 0), 0);
        due.is("an empty row has none", x.look(0, 2), 1);
        for (int place : PLACES) {
            x.set(0, 1, place);
            due.is("how many with one at " + place, x.look(0, 0), 1);
            due.is("not none with one at " + place, x.look(0, 2), 0);
            x.set(0, 0, place);
            due.is("none again", x.look(0, 2), 1);
        }
        x.piece(0, 1, 0, 4001);
        due.is("how many of a full row", x.look(0, 0), 4001);
        due.is("a full row has some", x.look(0, 2), 0);
    }

    private static void lookBehindTheLast1() {
        due.part("promise 9: the place behind its last 1; 0 without any");
        BitBoard x = new BitBoard();
        due.is("without any", x.look(0, 1), 0);
        for (int place : PLACES) {
            x.set(0, 1, place);
            due.is("with the last at " + place, x.look(0, 1), place + 1);
        }
        for (int i = PLACES.length - 1; i >= 0; i--) {
            due.is("down to " + PLACES[i], x.look(0, 1), PLACES[i] + 1);
            x.set(0, 2, PLACES[i]);
        }
        due.is("without any again", x.look(0, 1), 0);
        x.piece(0, 1, 0, 4001);
        due.is("a full row", x.look(0, 1), 4001);
    }

    private static void lookAnotherWhat() {
        due.part("promise 9: refused for another what");
        for (int what : new int[] {-1, 3, 4, 256, MIN, MAX}) {
            for (int row = 0; row <= 3; row++) {
                int r = row;
                Scene.refused(due, "look " + what + " of " + r, x -> x.look(r, what));
            }
        }
    }

    private static void meetEmptyAndFull() {
        due.part("promise 10: empty and full rows");
        BitBoard x = new BitBoard();
        x.piece(1, 1, 0, 4001);
        x.piece(2, 1, 0, 4001);
        due.is("empty and empty have no 1", x.meet(0, 0, 3), 0);
        due.is("empty and empty are the same", x.meet(0, 1, 3), 1);
        due.is("empty and itself have no 1", x.meet(0, 0, 0), 0);
        due.is("empty and itself are the same", x.meet(0, 1, 0), 1);
        due.is("empty and full have no common 1", x.meet(0, 0, 1), 0);
        due.is("empty and full are not the same", x.meet(0, 1, 1), 0);
        due.is("full and empty have no common 1", x.meet(1, 0, 0), 0);
        due.is("full and empty are not the same", x.meet(1, 1, 0), 0);
        due.is("full and full have a common 1", x.meet(1, 0, 2), 1);
        due.is("full and full are the same", x.meet(1, 1, 2), 1);
        due.is("full and itself have a common 1", x.meet(1, 0, 1), 1);
    }

    private static void meetAtOnePlace() {
        due.part("promise 10: a 1 at the same place, or the same but for one place");
        for (int place : PLACES) {
            BitBoard x = new BitBoard();
            x.set(0, 1, place);
            x.piece(1, 1, 0, 4001);
            due.is("the only 1 of a row, " + place, x.meet(0, 0, 1), 1);
            x.set(1, 0, place);
            due.is("a 0 there only, " + place, x.meet(0, 0, 1), 0);
            x.piece(2, 1, 0, 4001);
            due.is("1 beside 0 at " + place, x.meet(2, 1, 1), 0);
            due.is("0 beside 1 at " + place, x.meet(1, 1, 2), 0);
            x.set(2, 0, place);
            due.is("0 beside 0 at " + place, x.meet(1, 1, 2), 1);
            due.is("one 1 beside none, " + place, x.meet(0, 1, 3), 0);
        }
    }

    private static void meetAnotherWhat() {
        due.part("promise 10: refused for another what");
        for (int what : new int[] {-1, 2, 3, 256, MIN, MAX}) {
            Scene.refused(due, "meet " + what, x -> x.meet(0, what, 1));
            Scene.refused(due, "meet of a row with itself " + what, x -> x.meet(3, what, 3));
        }
    }

    private static void wordFirstIsLowest() {
        due.part("promise 11: the bits 64 n to 64 n + 63, the first the lowest");
        BitBoard x = new BitBoard();
        for (int bit = 0; bit <= 63; bit++) {
            x.set(0, 1, 64 + bit);
            due.is("bit " + bit, x.word(0, 1), 1L << bit);
            due.is("nothing before", x.word(0, 0), 0);
            due.is("nothing behind", x.word(0, 2), 0);
            x.set(0, 0, 64 + bit);
        }
        x.set(0, 1, 62);
        due.is("a word that is 2^62", x.word(0, 0), 1L << 62);
        x.set(0, 1, 63);
        due.is("the highest bit is the sign", x.word(0, 0), -(1L << 62));
    }

    private static void wordEnds() {
        due.part("promise 11: n 0 to 62");
        for (int n = 0; n <= 62; n++) {
            BitBoard x = new BitBoard();
            x.set(0, 1, 64 * n);
            due.is("word " + n, x.word(0, n), 1);
            x.piece(0, 1, 0, 4001);
            due.is("word " + n + " of a full row", x.word(0, n), n < 62 ? -1L : 0x1FFFFFFFFL);
            due.is("word " + n + " of an empty row", x.word(1, n), 0);
        }
    }

    private static void wordAnotherN() {
        due.part("promise 11: another n");
        // 64 times some of these is 0 as an int.
        for (int n : new int[] {-1, -62, 63, 64, 4000, 256, 65536, 1 << 26, -(1 << 26), 1 << 30, MIN, MAX}) {
            for (int row = 0; row <= 3; row++) {
                int r = row;
                Scene.refusedLong(due, "word " + n + " of " + r, x -> x.word(r, n));
            }
        }
    }

    private static void loadLowestFirst() {
        due.part("promise 12: the three longs, each 64 bits, the lowest first");
        BitBoard x = new BitBoard();
        long[] kinds = {0L, 1L, -1L, Long.MIN_VALUE, Long.MAX_VALUE, 1L << 31, 1L << 32, 0xFFFFFFFFL, 1L << 62};
        for (int i = 0; i < kinds.length; i++) {
            long a = kinds[i];
            long b = kinds[(i + 1) % kinds.length];
            long c = kinds[(i + 4) % kinds.length];
            int ones = Long.bitCount(a) + Long.bitCount(b) + Long.bitCount(c);
            due.is("load " + a + ", " + b + ", " + c, x.load(1, a, b, c), ones);
            due.is("the first", x.word(1, 0), a);
            due.is("the second", x.word(1, 1), b);
            due.is("the third", x.word(1, 2), c);
            due.is("how many", x.look(1, 0), ones);
        }
        x.load(1, 1L, 2L, 4L);
        due.is("the lowest bit of the first", x.next(1, 0, 0), 0);
        due.is("of the second", x.next(1, 0, 1), 65);
        due.is("of the third", x.next(1, 0, 66), 130);
    }

    private static void load0Behind() {
        due.part("promise 12: and 0 behind");
        for (long third : new long[] {0L, 1L, -1L}) {
            BitBoard x = new BitBoard();
            x.piece(0, 1, 0, 4001);
            x.piece(1, 1, 0, 4001);
            x.load(0, 0L, 0L, third);
            due.is("it ends", x.look(0, 1), third == 0L ? 0 : third == 1L ? 129 : 192);
            due.is("no 1 behind", x.next(0, 0, 192), -1);
            for (int n = 3; n <= 62; n++) {
                due.is("word " + n, x.word(0, n), 0);
            }
            due.is("another row stays", x.look(1, 0), 4001);
        }
        due.is("all 1", new BitBoard().load(0, -1L, -1L, -1L), 192);
        due.is("all 0", new BitBoard().load(0, 0L, 0L, 0L), 0);
    }

    private static void walkEmptyAndFull() {
        due.part("promise 13: the sum over all 1s");
        BitBoard x = new BitBoard();
        due.is("over none", x.walk(0), 0);
        for (int place : PLACES) {
            x.clear(0);
            x.set(0, 1, place);
            due.is("over one at " + place, x.walk(0), place);
        }
        x.piece(0, 1, 0, 4001);
        // The sum of p * (p + 1) over p up to n is n (n + 1) (n + 2) / 3: more than an int holds.
        due.is("over all", x.walk(0), 4000L * 4001L * 4002L / 3);
        due.is("nothing is changed", x.look(0, 0), 4001);
    }

    private static void walkRank() {
        due.part("promise 13: times (how many 1s are before it, and 1)");
        BitBoard x = new BitBoard();
        long sum = 0;
        for (int i = 0; i < PLACES.length; i++) {
            x.set(0, 1, PLACES[i]);
            sum += (long) PLACES[i] * (i + 1);
            due.is("up to " + PLACES[i], x.walk(0), sum);
        }
        x.set(0, 0, 0);
        for (int place : PLACES) {
            sum -= place;
        }
        due.is("a 1 at 0 is counted before the others", x.walk(0), sum);
        x.piece(1, 1, 3000, 4001);
        long late = 0;
        for (long place = 3000; place <= 4000; place++) {
            late += place * (place - 2999);
        }
        due.is("1s from 3000 on", x.walk(1), late);
    }

    private static void clearEmptyAndFull() {
        due.part("promise 14: all bits become 0: how many were 1");
        BitBoard x = new BitBoard();
        due.is("an empty row", x.clear(0), 0);
        x.piece(1, 1, 0, 4001);
        for (int place : PLACES) {
            x.set(0, 1, place);
            due.is("one at " + place, x.clear(0), 1);
            due.is("none is left", x.look(0, 2), 1);
            due.is("nothing to clear", x.clear(0), 0);
        }
        due.is("another row stays", x.look(1, 0), 4001);
        due.is("a full row", x.clear(1), 4001);
        due.is("none is left", x.look(1, 1), 0);
    }

    private static void textWithoutAny() {
        due.part("promise 15: without any just {}");
        BitBoard x = new BitBoard();
        due.text(x, 0, "{}");
        x.set(0, 1, 127);
        x.clear(0);
        due.text(x, 0, "{}");
    }

    private static void textBetweenTwo() {
        due.part("promise 15: rising, with , and then a blank between two");
        BitBoard x = new BitBoard();
        x.set(0, 1, 127);
        due.text(x, 0, "{127}");
        x.set(0, 1, 0);
        due.text(x, 0, "{0, 127}");
        x.set(0, 1, 64);
        due.text(x, 0, "{0, 64, 127}");
        x.set(0, 1, 63);
        due.text(x, 0, "{0, 63, 64, 127}");
        x.set(0, 0, 127);
        x.set(0, 0, 0);
        due.text(x, 0, "{63, 64}");
    }

    private static void textDigits() {
        due.part("promise 15: them in digits");
        for (int place = 0; place <= 127; place++) {
            BitBoard x = new BitBoard();
            x.set(3, 1, place);
            due.text(x, 3, "{" + place + "}");
        }
    }

    private static void textLongest() {
        due.part("promise 15: how many signs it has, at the most");
        StringBuilder all = new StringBuilder("{0");
        for (int place = 1; place <= 127; place++) {
            all.append(", ").append(place);
        }
        all.append('}');
        // An object has 512 calls and this text 530 signs: they are asked of two objects.
        for (int start : new int[] {0, 265}) {
            BitBoard x = new BitBoard();
            due.is("128 ones", x.load(1, -1L, -1L, 0L), 128);
            due.is("text", x.text(1), 530);
            for (int k = start; k < start + 265; k++) {
                due.is("octet " + k, x.octet(k), all.charAt(k));
            }
            due.is("octet behind", x.octet(530), NO);
        }
    }

    private static void textAt128() {
        due.part("promise 15: refused, too, if there is a 1 at 128 or behind");
        for (int place : new int[] {128, 129, 191, 192, 255, 256, 3968, 4000}) {
            Scene.refused(due, "text with a 1 at " + place, x -> {
                x.set(2, 1, place);
                long answer = x.text(2);
                x.set(2, 0, place);
                return answer;
            });
        }
        BitBoard x = new BitBoard();
        x.set(0, 1, 127);
        due.is("127 is before it", x.text(0), 5);
        x.set(0, 1, 128);
        due.is("with 128", x.text(0), NO);
        x.set(0, 0, 128);
        due.is("without it again", x.text(0), 5);
        x.piece(0, 1, 0, 4001);
        due.is("a full row", x.text(0), NO);
    }

    private static void textLatestStays() {
        due.part("promise 15: the latest text stays then");
        BitBoard x = new BitBoard();
        x.load(0, 6L, 0L, 0L);
        x.load(1, 9L, 0L, 1L);
        x.piece(2, 1, 0, 4001);
        due.text(x, 0, "{1, 2}");
        due.is("a 1 at 128", x.text(1), NO);
        due.signs("after a refused text", x, "{1, 2}");
        due.is("a full row", x.text(2), NO);
        due.signs("after two refused texts", x, "{1, 2}");
        for (int row : Scene.NO_ROWS) {
            due.is("text of row " + row, x.text(row), NO);
        }
        due.signs("after texts of rows that there are not", x, "{1, 2}");
        due.text(x, 3, "{}");
        due.is("a 1 at 128", x.text(1), NO);
        due.signs("after a refused text", x, "{}");
    }

    private static void octetEnds() {
        due.part("promise 16: sign k, from 0; refused if there is none");
        BitBoard x = new BitBoard();
        x.load(0, 0L, 1L << 63, 0L);
        x.text(0);
        due.is("the first", x.octet(0), 123);
        due.is("the last", x.octet(4), 125);
        for (int k : new int[] {-1, -5, 5, 6, 256, 529, 530, 531, 65536, MIN, MAX}) {
            due.is("octet " + k, x.octet(k), NO);
            due.is("the first, still", x.octet(0), 123);
        }
        for (int k : new int[] {-1, 6, 530, MIN, MAX}) {
            Scene.refused(due, "octet " + k, y -> y.octet(k));
        }
    }

    private static void octetNoText() {
        due.part("promise 16: refused if there is no text yet");
        BitBoard x = new BitBoard();
        x.set(1, 1, 128);
        for (int k : new int[] {0, 1, 2, -1, 529, 530, MIN, MAX}) {
            due.is("octet " + k, x.octet(k), NO);
        }
        due.is("a first text that is refused", x.text(1), NO);
        due.is("octet 0 after it", x.octet(0), NO);
        due.is("a text of no row", x.text(4), NO);
        due.is("octet 0 after it", x.octet(0), NO);
        due.text(x, 0, "{}");
    }

    private static void octetShorterText() {
        due.part("promise 16: the latest text, though an earlier one was longer");
        BitBoard x = new BitBoard();
        x.load(0, -1L, -1L, 0L);
        x.load(1, 2L, 0L, 0L);
        due.is("the longest", x.text(0), 530);
        due.text(x, 1, "{1}");
        for (int k = 3; k < 40; k++) {
            due.is("octet " + k, x.octet(k), NO);
        }
        due.is("octet 529", x.octet(529), NO);
        due.is("the longest again", x.text(0), 530);
        due.is("octet 529", x.octet(529), 125);
    }

    private static void octetIsOfTheText() {
        due.part("promise 16: the latest text, though its row is changed since");
        BitBoard x = new BitBoard();
        x.load(0, 6L, 0L, 0L);
        due.text(x, 0, "{1, 2}");
        x.set(0, 1, 0);
        x.piece(0, 2, 0, 100);
        x.join(0, 1, 1);
        due.signs("after join", x, "{1, 2}");
        x.cut(0, 0, 0, 50);
        x.copy(0, 1);
        x.load(0, 1L, 1L, 1L);
        x.clear(0);
        due.signs("after clear", x, "{1, 2}");
    }
}
