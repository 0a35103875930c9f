/** The boundary cases of 'What it is' and 'Terms', a test for each sentence that names one. */
public final class TermsTest {
    private static final int[] NO_PLACES = {
        -1, 4001, 4032, 4096, 65536, 1 << 26, Integer.MIN_VALUE, Integer.MAX_VALUE,
    };
    /** Both sides of each border between words, and of each limit. */
    private static final int[] BORDERS = {
        0, 1, 31, 32, 33, 63, 64, 65, 127, 128, 129, 191, 192, 3967, 3968, 3969, 3999, 4000, 4001,
    };

    private static final Due due = new Due();

    public static void main(String[] args) {
        atMost512Calls();
        rows0To3();
        rowsOfTwo();
        rowsThatThereAreNot();
        otherRowsThatThereAreNot();
        longsThatAreRefused();
        aBitAtEachPlace();
        allAre0AtFirst();
        withoutEnd();
        places0To4000();
        placesOutside();
        endsOfPieces0To4001();
        endsOfPiecesOutside();
        fromFromOnToBeforeTo();
        cutFromFromOnToBeforeTo();
        fromIsNotAboveTo();
        fromAboveTo();
        due.end();
    }

    private static void atMost512Calls() {
        due.part("an object is used for at most 512 calls");
        BitBoard x = new BitBoard();
        for (int i = 1; i <= 512; i++) {
            due.is("call " + i, x.set(3, 2, 4000), 1 - i % 2);
        }
        BitBoard y = new BitBoard();
        y.load(0, -1L, -1L, 0L);
        for (int i = 2; i <= 511; i++) {
            due.is("call " + i, y.text(0), 530);
        }
        due.is("call 512", y.octet(529), '}');
    }

    private static void rows0To3() {
        due.part("rows 0 to 3");
        for (int row = 0; row <= 3; row++) {
            BitBoard x = new BitBoard();
            due.is("load of " + row, x.load(row, 3L, 0L, 0L), 2);
            due.is("set of " + row, x.set(row, 1, 5), 0);
            due.is("get of " + row, x.get(row, 5), 1);
            due.is("piece of " + row, x.piece(row, 1, 0, 8), 8);
            due.is("next of " + row, x.next(row, 1, 0), 8);
            due.is("look of " + row, x.look(row, 0), 8);
            due.is("word of " + row, x.word(row, 0), 255);
            due.is("walk of " + row, x.walk(row), 2 + 6 + 12 + 20 + 30 + 42 + 56);
            due.text(x, row, "{0, 1, 2, 3, 4, 5, 6, 7}");
            for (int other = 0; other <= 3; other++) {
                due.is("row " + other + " beside " + row, x.look(other, 0), other == row ? 8 : 0);
            }
            due.is("clear of " + row, x.clear(row), 8);
        }
    }

    private static void rowsOfTwo() {
        due.part("rows 0 to 3, two of them");
        for (int row = 0; row <= 3; row++) {
            for (int other = 0; other <= 3; other++) {
                BitBoard x = new BitBoard();
                x.load(row, 7L, 0L, 0L);
                x.load(other, 14L, 0L, 0L);
                boolean same = row == other;
                String name = row + " and " + other;
                due.is("meet of " + name, x.meet(row, 1, other), same ? 1 : 0);
                due.is("join of " + name, x.join(row, 1, other), same ? 3 : 4);
                due.is("other after join of " + name, x.word(other, 0), 14);
                due.is("cut of " + name, x.cut(row, other, 0, 2), 1);
                due.is("row after cut of " + name, x.word(row, 0), 2);
                due.is("other after cut of " + name, x.word(other, 0), same ? 2 : 14);
                due.is("copy of " + name, x.copy(row, other), same ? 1 : 3);
                due.is("row after copy of " + name, x.word(row, 0), same ? 2 : 14);
            }
        }
    }

    private static void rowsThatThereAreNot() {
        due.part("rows that there are not: refused, and nothing is changed");
        for (int row : Scene.NO_ROWS) {
            for (int what = 0; what <= 3; what++) {
                int w = what;
                Scene.refused(due, "set of row " + row + ", what " + w, x -> x.set(row, w, 5));
                Scene.refused(due, "piece of row " + row + ", what " + w, x -> x.piece(row, w, 3, 9));
                Scene.refused(due, "next of row " + row + ", what " + w, x -> x.next(row, w, 5));
                Scene.refused(due, "join of row " + row + ", op " + w, x -> x.join(row, w, 1));
                Scene.refused(due, "look of row " + row + ", what " + w, x -> x.look(row, w));
                Scene.refused(due, "meet of row " + row + ", what " + w, x -> x.meet(row, w, 1));
            }
            Scene.refused(due, "get of row " + row, x -> x.get(row, 0));
            Scene.refused(due, "cut of row " + row, x -> x.cut(row, 1, 3, 9));
            Scene.refused(due, "copy of row " + row, x -> x.copy(row, 1));
            Scene.refused(due, "load of row " + row, x -> x.load(row, 1L, 2L, 3L));
            Scene.refused(due, "clear of row " + row, x -> x.clear(row));
            Scene.refused(due, "text of row " + row, x -> x.text(row));
        }
    }

    private static void otherRowsThatThereAreNot() {
        due.part("other rows that there are not: refused, and nothing is changed");
        for (int other : Scene.NO_ROWS) {
            for (int what = 0; what <= 3; what++) {
                int w = what;
                Scene.refused(due, "join with row " + other + ", op " + w, x -> x.join(0, w, other));
                Scene.refused(due, "meet with row " + other + ", what " + w, x -> x.meet(0, w, other));
                Scene.refused(due, "meet of row " + other + " with itself", x -> x.meet(other, w, other));
            }
            Scene.refused(due, "cut of row " + other, x -> x.cut(0, other, 3, 9));
            Scene.refused(due, "cut of nothing of row " + other, x -> x.cut(0, other, 0, 0));
            Scene.refused(due, "copy of row " + other, x -> x.copy(0, other));
            Scene.refused(due, "copy of row " + other + " to itself", x -> x.copy(other, other));
        }
    }

    private static void longsThatAreRefused() {
        due.part("refused by calls that answer longs: 2^62, and nothing is changed");
        due.is("2^62", new BitBoard().walk(4), 4611686018427387904L);
        for (int row : Scene.NO_ROWS) {
            Scene.refusedLong(due, "walk of row " + row, x -> x.walk(row));
            Scene.refusedLong(due, "word of row " + row, x -> x.word(row, 0));
            Scene.refusedLong(due, "word 63 of row " + row, x -> x.word(row, 63));
        }
    }

    private static void aBitAtEachPlace() {
        due.part("a bit at each place");
        BitBoard x = new BitBoard();
        for (int place = 0; place <= 4000; place++) {
            // Each place takes five calls, and an object has 512.
            if (place % 100 == 0) {
                x = new BitBoard();
            }
            due.is("set at " + place, x.set(1, 1, place), 0);
            due.is("get at " + place, x.get(1, place), 1);
            due.is("no other bit than " + place, x.look(1, 0), 1);
            due.is("behind " + place, x.look(1, 1), place + 1);
            due.is("set back at " + place, x.set(1, 0, place), 1);
        }
    }

    private static void allAre0AtFirst() {
        due.part("all are 0 at first");
        BitBoard x = new BitBoard();
        for (int row = 0; row <= 3; row++) {
            for (int n = 0; n <= 62; n++) {
                due.is("word " + n + " of " + row, x.word(row, n), 0);
            }
            due.is("get 0 of " + row, x.get(row, 0), 0);
            due.is("get 4000 of " + row, x.get(row, 4000), 0);
            due.is("next 1 of " + row, x.next(row, 0, 0), -1);
        }
    }

    private static void withoutEnd() {
        due.part("a bit at each place 0, 1, ..: those behind 4000 are there, and stay 0");
        BitBoard x = new BitBoard();
        for (int what = 1; what <= 2; what++) {
            x.clear(0);
            due.is("all are 1", x.piece(0, what, 0, 4001), 4001);
            due.is("word 62 ends at 4000", x.word(0, 62), 0x1FFFFFFFFL);
            due.is("the first 0 is behind 4000", x.next(0, 1, 0), 4001);
        }
        due.is("cut from 100 on", x.cut(1, 0, 100, 4001), 3901);
        due.is("0s have come from behind", x.look(1, 1), 3901);
        due.is("the first 0", x.next(1, 1, 0), 3901);
    }

    private static void places0To4000() {
        due.part("places 0 to 4000");
        for (int place : new int[] {0, 4000}) {
            BitBoard x = new BitBoard();
            due.is("get at " + place, x.get(0, place), 0);
            due.is("set 1 at " + place, x.set(0, 1, place), 0);
            due.is("set 2 at " + place, x.set(0, 2, place), 1);
            due.is("set 0 at " + place, x.set(0, 0, place), 0);
            due.is("next 0 at " + place, x.next(0, 0, place), -1);
            due.is("next 1 at " + place, x.next(0, 1, place), place);
            due.is("next 2 at " + place, x.next(0, 2, place), -1);
            due.is("next 3 at " + place, x.next(0, 3, place), place);
        }
    }

    private static void placesOutside() {
        due.part("other places: refused, and nothing is changed");
        for (int place : NO_PLACES) {
            for (int row = 0; row <= 3; row++) {
                int r = row;
                Scene.refused(due, "get of " + r + " at " + place, x -> x.get(r, place));
                for (int what = 0; what <= 3; what++) {
                    int w = what;
                    Scene.refused(due, "set " + w + " of " + r + " at " + place, x -> x.set(r, w, place));
                    Scene.refused(due, "next " + w + " of " + r + " at " + place, x -> x.next(r, w, place));
                }
            }
        }
    }

    private static void endsOfPieces0To4001() {
        due.part("from and to of pieces 0 to 4001");
        BitBoard x = new BitBoard();
        due.is("piece 0 to 0", x.piece(0, 1, 0, 0), 0);
        due.is("piece 4001 to 4001", x.piece(0, 1, 4001, 4001), 0);
        due.is("piece 0 to 1", x.piece(0, 1, 0, 1), 1);
        due.is("piece 4000 to 4001", x.piece(0, 1, 4000, 4001), 2);
        due.is("piece 0 to 4001", x.piece(0, 2, 0, 4001), 3999);
        due.is("piece 0 to 4001", x.piece(0, 0, 0, 4001), 0);
        due.is("piece 0 to 4001", x.piece(0, 1, 0, 4001), 4001);
        due.is("cut 0 to 4001", x.cut(1, 0, 0, 4001), 4001);
        due.is("cut 4000 to 4001", x.cut(1, 0, 4000, 4001), 1);
        due.is("cut 0 to 1", x.cut(1, 0, 0, 1), 1);
        due.is("cut 4001 to 4001", x.cut(1, 0, 4001, 4001), 0);
        due.is("cut 0 to 0", x.cut(1, 0, 0, 0), 0);
    }

    private static void endsOfPiecesOutside() {
        due.part("other ends of pieces: refused, and nothing is changed");
        int[] no = {-1, 4002, 4032, 65536, 1 << 26, Integer.MIN_VALUE, Integer.MAX_VALUE};
        for (int end : no) {
            refusedPiece(end, end);
            refusedPiece(0, end);
            refusedPiece(5, end);
            refusedPiece(end, 5);
            refusedPiece(end, 4001);
        }
        refusedPiece(-1, 4002);
        refusedPiece(4002, 4003);
        refusedPiece(-2, -1);
        refusedPiece(Integer.MIN_VALUE, Integer.MAX_VALUE);
        refusedPiece(Integer.MAX_VALUE, Integer.MIN_VALUE);
    }

    private static void fromFromOnToBeforeTo() {
        due.part("a piece: the places from from on to before to");
        for (int i = 0; i < BORDERS.length; i++) {
            for (int k = i; k < BORDERS.length; k++) {
                int from = BORDERS[i];
                int to = BORDERS[k];
                String name = "piece " + from + " to " + to;
                BitBoard x = new BitBoard();
                due.is(name + " to 1", x.piece(0, 1, from, to), to - from);
                due.is(name + " turned", x.piece(1, 2, from, to), to - from);
                x.piece(2, 1, 0, 4001);
                due.is(name + " to 0", x.piece(2, 0, from, to), 4001 - to + from);
                for (int n = 0; n <= 62; n++) {
                    long ones = onesFromTo(from - 64 * n, to - 64 * n);
                    due.is(name + " to 1, word " + n, x.word(0, n), ones);
                    due.is(name + " turned, word " + n, x.word(1, n), ones);
                    due.is(name + " to 0, word " + n, x.word(2, n), onesFromTo(0, 4001 - 64 * n) & ~ones);
                }
            }
        }
    }

    private static void cutFromFromOnToBeforeTo() {
        due.part("a piece that is cut: the places from from on to before to");
        for (int i = 0; i < BORDERS.length; i++) {
            for (int k = i; k < BORDERS.length; k++) {
                int from = BORDERS[i];
                int to = BORDERS[k];
                BitBoard x = new BitBoard();
                for (int n = 0; n < BORDERS.length - 1; n++) {
                    x.set(0, 1, BORDERS[n]);
                }
                // The row has a 1 at each border but 4001, so k - i of them are in the piece.
                due.is("cut " + from + " to " + to, x.cut(1, 0, from, to), k - i);
                areMovedBorders(x, 1, from, to);
                due.is("cut of itself " + from + " to " + to, x.cut(0, 0, from, to), k - i);
                areMovedBorders(x, 0, from, to);
            }
        }
    }

    private static void areMovedBorders(BitBoard x, int row, int from, int to) {
        long[] want = new long[63];
        for (int place : BORDERS) {
            if (from <= place && place < to) {
                want[(place - from) / 64] |= 1L << (place - from) % 64;
            }
        }
        for (int n = 0; n <= 62; n++) {
            due.is("word " + n + " of cut " + from + " to " + to, x.word(row, n), want[n]);
        }
    }

    private static void fromIsNotAboveTo() {
        due.part("from is not above to: it may be to, and the piece is empty");
        for (int at : BORDERS) {
            for (int what = 0; what <= 2; what++) {
                BitBoard x = new BitBoard();
                x.load(0, 5L, 5L, 5L);
                due.is("piece " + at + " to itself", x.piece(0, what, at, at), 6);
                due.is("word 0", x.word(0, 0), 5);
                due.is("cut " + at + " to itself", x.cut(0, 0, at, at), 0);
                due.is("look", x.look(0, 2), 1);
            }
        }
    }

    private static void fromAboveTo() {
        due.part("from above to: refused, and nothing is changed");
        for (int at : BORDERS) {
            if (at < 4001) {
                refusedPiece(at + 1, at);
                refusedPiece(4001, at);
            }
        }
    }

    private static void refusedPiece(int from, int to) {
        String name = " from " + from + " to " + to;
        for (int row = 0; row <= 3; row++) {
            int r = row;
            for (int what = 0; what <= 3; what++) {
                int w = what;
                Scene.refused(due, "piece " + w + " of " + r + name, x -> x.piece(r, w, from, to));
            }
            Scene.refused(due, "cut of " + r + name, x -> x.cut(0, r, from, to));
        }
    }

    /** A word with 1s from the bit from on to before the bit to; both may lie outside the word. */
    private static long onesFromTo(int from, int to) {
        long ones = 0L;
        for (int bit = 63; bit >= 0; bit--) {
            ones = ones * 2 + (from <= bit && bit < to ? 1 : 0);
        }
        return ones;
    }
}
