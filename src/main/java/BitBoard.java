/** Rows of bits without end, set, cleared, turned in pieces, joined, moved and searched. */
public final class BitBoard {
    public static final int REFUSED = -2;

    private static final long REFUSED_LONG = 0x4000000000000000L;
    private static final int ROW_COUNT = 4;
    private static final int LAST_PLACE = 4000;

    private static final int TO_ZERO = 0;
    private static final int TO_ONE = 1;
    private static final int TURN = 2;

    private static final int FIRST_ONE = 0;
    private static final int FIRST_ZERO = 1;
    private static final int LAST_ONE = 2;
    private static final int LAST_ZERO = 3;

    private static final int AND = 0;
    private static final int OR = 1;
    private static final int XOR = 2;
    private static final int AND_NOT = 3;

    private static final int HOW_MANY = 0;
    private static final int END = 1;
    private static final int IS_EMPTY = 2;

    private static final int SHARE_ONE = 0;
    private static final int ARE_SAME = 1;

    private final Row[] rows;
    private final Signs latest;

    public BitBoard() {
        rows = new Row[ROW_COUNT];
        for (int i = 0; i < ROW_COUNT; i++) {
            rows[i] = new Row();
        }
        latest = new Signs();
    }

    public int set(int row, int what, int place) {
        if (!isRow(row) || !isChange(what) || !isPlace(place)) {
            return REFUSED;
        }
        int before = rows[row].bit(place);
        rows[row].change(what, place, place + 1);
        return before;
    }

    public int piece(int row, int what, int from, int to) {
        if (!isRow(row) || !isChange(what) || !isPiece(from, to)) {
            return REFUSED;
        }
        rows[row].change(what, from, to);
        return rows[row].ones();
    }

    public int get(int row, int place) {
        if (!isRow(row) || !isPlace(place)) {
            return REFUSED;
        }
        return rows[row].bit(place);
    }

    public int next(int row, int what, int place) {
        if (!isRow(row) || !isPlace(place)) {
            return REFUSED;
        }
        switch (what) {
            case FIRST_ONE:
                return rows[row].firstFrom(place, 0L);
            case FIRST_ZERO:
                return rows[row].firstFrom(place, -1L);
            case LAST_ONE:
                return rows[row].lastUpTo(place, 0L);
            case LAST_ZERO:
                return rows[row].lastUpTo(place, -1L);
            default:
                return REFUSED;
        }
    }

    public int join(int row, int op, int other) {
        if (!isRow(row) || !isRow(other) || op < AND || op > AND_NOT) {
            return REFUSED;
        }
        rows[row].combine(op, rows[other]);
        return rows[row].ones();
    }

    public int cut(int row, int other, int from, int to) {
        if (!isRow(row) || !isRow(other) || !isPiece(from, to)) {
            return REFUSED;
        }
        rows[row].takePiece(rows[other], from, to);
        return rows[row].ones();
    }

    public int copy(int row, int other) {
        if (!isRow(row) || !isRow(other)) {
            return REFUSED;
        }
        rows[row].takePiece(rows[other], 0, LAST_PLACE + 1);
        return rows[row].ones();
    }

    public int look(int row, int what) {
        if (!isRow(row)) {
            return REFUSED;
        }
        switch (what) {
            case HOW_MANY:
                return rows[row].ones();
            case END:
                return rows[row].end();
            case IS_EMPTY:
                return rows[row].end() == 0 ? 1 : 0;
            default:
                return REFUSED;
        }
    }

    public int meet(int row, int what, int other) {
        if (!isRow(row) || !isRow(other)) {
            return REFUSED;
        }
        switch (what) {
            case SHARE_ONE:
                return rows[row].sharesOne(rows[other]) ? 1 : 0;
            case ARE_SAME:
                return rows[row].isSame(rows[other]) ? 1 : 0;
            default:
                return REFUSED;
        }
    }

    public long word(int row, int n) {
        if (!isRow(row) || n < 0 || n >= Row.WORD_COUNT) {
            return REFUSED_LONG;
        }
        return rows[row].wordAt(n);
    }

    public int load(int row, long a, long b, long c) {
        if (!isRow(row)) {
            return REFUSED;
        }
        rows[row].takeWords(a, b, c);
        return rows[row].ones();
    }

    public long walk(int row) {
        if (!isRow(row)) {
            return REFUSED_LONG;
        }
        return rows[row].rankedSum();
    }

    public int clear(int row) {
        if (!isRow(row)) {
            return REFUSED;
        }
        int before = rows[row].ones();
        rows[row].change(TO_ZERO, 0, LAST_PLACE + 1);
        return before;
    }

    public int text(int row) {
        if (!isRow(row) || rows[row].end() > Signs.PLACE_LIMIT) {
            return REFUSED;
        }
        latest.write(rows[row]);
        return latest.length();
    }

    public int octet(int k) {
        return latest.codeAt(k);
    }

    private static boolean isRow(int row) {
        return row >= 0 && row < ROW_COUNT;
    }

    private static boolean isPlace(int place) {
        return place >= 0 && place <= LAST_PLACE;
    }

    private static boolean isPiece(int from, int to) {
        return from >= 0 && from <= to && to <= LAST_PLACE + 1;
    }

    private static boolean isChange(int what) {
        return what >= TO_ZERO && what <= TURN;
    }

    /**
     * The bits of one row. No call can make a 1 behind place 4000 (cut only moves bits down, load
     * ends at 191), so 63 words hold all of a row, and the last word always keeps a 0 in it.
     */
    private static final class Row {
        static final int WORD_COUNT = 63;

        private final long[] words = new long[WORD_COUNT];

        long wordAt(int n) {
            return n >= 0 && n < WORD_COUNT ? words[n] : 0L;
        }

        int bit(int place) {
            return (int) (wordAt(place >> 6) >>> (place & 63)) & 1;
        }

        int ones() {
            int count = 0;
            for (int i = 0; i < WORD_COUNT; i++) {
                count += Long.bitCount(words[i]);
            }
            return count;
        }

        /** The place behind the last 1. */
        int end() {
            return lastUpTo(LAST_PLACE, 0L) + 1;
        }

        void change(int what, int from, int to) {
            for (int i = 0; i < WORD_COUNT; i++) {
                long mask = lowBits(to - 64 * i) & ~lowBits(from - 64 * i);
                words[i] = changed(words[i], what, mask);
            }
        }

        /** The first 1 from a place on; with flip -1 the words are turned, so that 0s are found. */
        int firstFrom(int place, long flip) {
            for (int i = 0; i < WORD_COUNT; i++) {
                long found = (words[i] ^ flip) & ~lowBits(place - 64 * i);
                if (found != 0L) {
                    return 64 * i + Long.numberOfTrailingZeros(found);
                }
            }
            return -1;
        }

        /** The last 1 up to a place; with flip -1 the words are turned, so that 0s are found. */
        int lastUpTo(int place, long flip) {
            for (int i = WORD_COUNT - 1; i >= 0; i--) {
                long found = (words[i] ^ flip) & lowBits(place + 1 - 64 * i);
                if (found != 0L) {
                    return 64 * i + 63 - Long.numberOfLeadingZeros(found);
                }
            }
            return -1;
        }

        void combine(int op, Row other) {
            for (int i = 0; i < WORD_COUNT; i++) {
                words[i] = combined(words[i], op, other.words[i]);
            }
        }

        void takePiece(Row other, int from, int to) {
            // Rising order: other may be this row, and no word is read after it was written.
            for (int i = 0; i < WORD_COUNT; i++) {
                words[i] = other.bitsFrom(from + 64 * i) & lowBits(to - from - 64 * i);
            }
        }

        void takeWords(long a, long b, long c) {
            for (int i = 3; i < WORD_COUNT; i++) {
                words[i] = 0L;
            }
            words[0] = a;
            words[1] = b;
            words[2] = c;
        }

        boolean sharesOne(Row other) {
            for (int i = 0; i < WORD_COUNT; i++) {
                if ((words[i] & other.words[i]) != 0L) {
                    return true;
                }
            }
            return false;
        }

        boolean isSame(Row other) {
            for (int i = 0; i < WORD_COUNT; i++) {
                if (words[i] != other.words[i]) {
                    return false;
                }
            }
            return true;
        }

        /** The sum over all 1s of the place times its rank, the first 1 having rank 1. */
        long rankedSum() {
            long sum = 0L;
            long rank = 0L;
            for (int i = 0; i < WORD_COUNT; i++) {
                long rest = words[i];
                for (int left = Long.bitCount(rest); left > 0; left--) {
                    rank++;
                    sum += rank * (64 * i + Long.numberOfTrailingZeros(rest));
                    rest &= rest - 1L;
                }
            }
            return sum;
        }

        /** The 64 bits from a place on, the first the lowest. */
        private long bitsFrom(int place) {
            int n = place >> 6;
            int shift = place & 63;
            if (shift == 0) {
                // A shift by 64 - 0 would be one by 0 in Java and bring the next word in whole.
                return wordAt(n);
            }
            return wordAt(n) >>> shift | wordAt(n + 1) << (64 - shift);
        }

        /** The lowest count bits set: none for a count below 1, all for one above 63. */
        private static long lowBits(int count) {
            if (count <= 0) {
                return 0L;
            }
            return count >= 64 ? -1L : (1L << count) - 1L;
        }

        private static long changed(long word, int what, long mask) {
            switch (what) {
                case TO_ZERO:
                    return word & ~mask;
                case TO_ONE:
                    return word | mask;
                default:
                    return word ^ mask;
            }
        }

        private static long combined(long word, int op, long other) {
            switch (op) {
                case AND:
                    return word & other;
                case OR:
                    return word | other;
                case XOR:
                    return word ^ other;
                default:
                    return word & ~other;
            }
        }
    }

    /** The latest text. Its room is made once, so that no call makes anything. */
    private static final class Signs {
        static final int PLACE_LIMIT = 128;
        /** The brackets, 10 places of one digit, 90 of two, 28 of three, and 127 gaps of two signs. */
        private static final int ROOM = 2 + 10 + 90 * 2 + 28 * 3 + 127 * 2;

        private final char[] signs = new char[ROOM];
        private int length = 0;

        int length() {
            return length;
        }

        int codeAt(int k) {
            if (k < 0 || k >= length) {
                return REFUSED;
            }
            return signs[k];
        }

        void write(Row row) {
            length = 0;
            add('{');
            for (int place = 0; place < PLACE_LIMIT; place++) {
                if (row.bit(place) == 1) {
                    addPlace(place);
                }
            }
            add('}');
        }

        private void addPlace(int place) {
            if (length > 1) {
                add(',');
                add(' ');
            }
            if (place >= 100) {
                addDigit(place / 100);
            }
            if (place >= 10) {
                addDigit(place / 10 % 10);
            }
            addDigit(place % 10);
        }

        private void addDigit(int digit) {
            add((char) ('0' + digit));
        }

        private void add(char sign) {
            if (length < ROOM) {
                signs[length] = sign;
                length++;
            }
        }
    }
}
