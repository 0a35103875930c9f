/** A new board in a known state, and the check that a refused call leaves all of it as it was. */
final class Scene {
    /** One call on a board. */
    interface Call {
        long on(BitBoard x);
    }

    /** Rows that there are not: next to the ends, and such as would be rows if cut to fewer bits. */
    static final int[] NO_ROWS = {-1, 4, 256, 65536, Integer.MIN_VALUE, Integer.MAX_VALUE};

    private static final int NO = BitBoard.REFUSED;
    private static final long NO_LONG = 1L << 62;
    private static final int WORDS = 63;
    private static final String TEXT = "{1, 2}";

    private final Due due;
    private final BitBoard board = new BitBoard();
    private final long[][] words = new long[4][WORDS];

    /** Rows 0 and 1 are mixed, row 2 is empty, row 3 full; the text is one that no row would give. */
    private Scene(Due due) {
        this.due = due;
        mixed(0, 0x0123456789ABCDEFL, 0xF0F0L, Long.MIN_VALUE, 4000);
        mixed(1, 0xFEDCBA9876543210L, -1L, 1L, 3999);
        board.load(2, 6L, 0L, 0L);
        board.text(2);
        board.clear(2);
        board.piece(3, 1, 0, 4001);
        for (int n = 0; n < WORDS; n++) {
            words[3][n] = n < 62 ? -1L : (1L << 33) - 1;
        }
    }

    static void refused(Due due, String name, Call call) {
        answers(due, name, call, NO);
    }

    static void refusedLong(Due due, String name, Call call) {
        answers(due, name, call, NO_LONG);
    }

    private static void answers(Due due, String name, Call call, long want) {
        Scene scene = new Scene(due);
        due.is(name, call.on(scene.board), want);
        scene.isUnchanged(name);
    }

    private void mixed(int row, long a, long b, long c, int place) {
        board.load(row, a, b, c);
        board.set(row, 1, place);
        words[row][0] = a;
        words[row][1] = b;
        words[row][2] = c;
        words[row][place / 64] = 1L << place % 64;
    }

    private void isUnchanged(String name) {
        for (int row = 0; row < 4; row++) {
            for (int n = 0; n < WORDS; n++) {
                due.is("word(" + row + ", " + n + ") after " + name, board.word(row, n), words[row][n]);
            }
        }
        due.signs("after " + name, board, TEXT);
    }
}
