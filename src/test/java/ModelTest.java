import java.util.Arrays;
import java.util.BitSet;
import java.util.Random;

/** Runs of 512 mixed calls on new objects, each answer held against a plain model over BitSet. */
public final class ModelTest {
    private static final int RUNS = 3000;
    private static final int CALLS = 512;
    private static final int NO = -2;
    private static final long NO_LONG = 4611686018427387904L;
    private static final int[] EDGES = {
        -1, 0, 1, 2, 62, 63, 64, 65, 126, 127, 128, 129, 191, 192, 193, 3967, 3968, 3999, 4000, 4001, 4002,
        4031, 4032, Integer.MIN_VALUE, Integer.MAX_VALUE,
    };

    private final Random random;
    private final BitBoard board = new BitBoard();
    private final BitSet[] model = {new BitSet(), new BitSet(), new BitSet(), new BitSet()};
    private String latest = "";
    private String call = "";

    private ModelTest(long seed) {
        random = new Random(seed);
    }

    public static void main(String[] args) {
        Due due = new Due();
        for (int run = 1; run <= RUNS; run++) {
            due.part("run " + run);
            ModelTest test = new ModelTest(run);
            for (int i = 0; i < CALLS; i++) {
                long[] answers = test.step();
                due.is("call " + i + ": " + test.call, answers[0], answers[1]);
            }
        }
        due.end();
    }

    /** One call: what the board answered, and what the model does. */
    private long[] step() {
        int row = row();
        int other = row();
        int what = random.nextInt(16) == 0 ? random.nextInt(9) - 3 : random.nextInt(4);
        int place = place();
        int from = place();
        int to = random.nextInt(4) == 0 ? place() : from + random.nextInt(200);
        switch (random.nextInt(16)) {
            case 0:
                named("set", row, what, place);
                return pair(board.set(row, what, place), set(row, what, place));
            case 1:
            case 2:
                named("piece", row, what, from, to);
                return pair(board.piece(row, what, from, to), piece(row, what, from, to));
            case 3:
                named("get", row, place);
                return pair(board.get(row, place), get(row, place));
            case 4:
                named("next", row, what, place);
                return pair(board.next(row, what, place), next(row, what, place));
            case 5:
                named("join", row, what, other);
                return pair(board.join(row, what, other), join(row, what, other));
            case 6:
                named("cut", row, other, from, to);
                return pair(board.cut(row, other, from, to), cut(row, other, from, to));
            case 7:
                named("copy", row, other);
                return pair(board.copy(row, other), copy(row, other));
            case 8:
                named("look", row, what);
                return pair(board.look(row, what), look(row, what));
            case 9:
                named("meet", row, what, other);
                return pair(board.meet(row, what, other), meet(row, what, other));
            case 10:
                int n = random.nextInt(8) == 0 ? place : random.nextInt(66) - 1;
                named("word", row, n);
                return pair(board.word(row, n), word(row, n));
            case 11:
                return load(row, random.nextLong(), long64(), long64());
            case 12:
                named("walk", row);
                return pair(board.walk(row), walk(row));
            case 13:
                if (random.nextInt(3) != 0) {
                    // Few rows end below 128 by chance: without this, few texts would be written.
                    return load(row, long64() & random.nextLong(), long64(), 0L);
                }
                named("clear", row);
                return pair(board.clear(row), clear(row));
            case 14:
                named("text", row);
                return pair(board.text(row), text(row));
            default:
                int k = random.nextInt(8) == 0 ? place : random.nextInt(latest.length() + 2) - 1;
                named("octet", k);
                return pair(board.octet(k), k < 0 || k >= latest.length() ? NO : latest.charAt(k));
        }
    }

    private int row() {
        return random.nextInt(24) == 0 ? EDGES[random.nextInt(EDGES.length)] : random.nextInt(4);
    }

    private int place() {
        switch (random.nextInt(4)) {
            case 0:
                return EDGES[random.nextInt(EDGES.length)];
            case 1:
                return random.nextInt(4001);
            default:
                return random.nextInt(260);
        }
    }

    private long long64() {
        int kind = random.nextInt(4);
        return kind == 0 ? 0L : kind == 1 ? -1L : kind == 2 ? 1L << random.nextInt(64) : random.nextLong();
    }

    private void named(String name, int... args) {
        call = name + Arrays.toString(args);
    }

    private static long[] pair(long got, long want) {
        return new long[] {got, want};
    }

    private static boolean isRow(int row) {
        return 0 <= row && row <= 3;
    }

    private static boolean isPlace(int place) {
        return 0 <= place && place <= 4000;
    }

    private static boolean isPiece(int from, int to) {
        return 0 <= from && from <= 4001 && 0 <= to && to <= 4001 && from <= to;
    }

    private int set(int row, int what, int place) {
        if (!isRow(row) || !isPlace(place) || what < 0 || what > 2) {
            return NO;
        }
        int before = get(row, place);
        model[row].set(place, what == 2 ? before == 0 : what == 1);
        return before;
    }

    private int piece(int row, int what, int from, int to) {
        if (!isRow(row) || !isPiece(from, to) || what < 0 || what > 2) {
            return NO;
        }
        for (int place = from; place < to; place++) {
            set(row, what, place);
        }
        return model[row].cardinality();
    }

    private int get(int row, int place) {
        if (!isRow(row) || !isPlace(place)) {
            return NO;
        }
        return model[row].get(place) ? 1 : 0;
    }

    private int next(int row, int what, int place) {
        if (!isRow(row) || !isPlace(place) || what < 0 || what > 3) {
            return NO;
        }
        boolean sought = what == 0 || what == 2;
        int step = what < 2 ? 1 : -1;
        for (int at = place; at >= 0 && at <= 4001; at += step) {
            if (model[row].get(at) == sought) {
                return at;
            }
        }
        return -1;
    }

    private int join(int row, int op, int other) {
        if (!isRow(row) || !isRow(other) || op < 0 || op > 3) {
            return NO;
        }
        BitSet joined = new BitSet();
        for (int place = 0; place <= 4000; place++) {
            boolean a = model[row].get(place);
            boolean b = model[other].get(place);
            joined.set(place, op == 0 ? a && b : op == 1 ? a || b : op == 2 ? a != b : a && !b);
        }
        model[row] = joined;
        return joined.cardinality();
    }

    private int cut(int row, int other, int from, int to) {
        if (!isRow(row) || !isRow(other) || !isPiece(from, to)) {
            return NO;
        }
        BitSet piece = new BitSet();
        for (int place = from; place < to; place++) {
            piece.set(place - from, model[other].get(place));
        }
        model[row] = piece;
        return piece.cardinality();
    }

    private int copy(int row, int other) {
        if (!isRow(row) || !isRow(other)) {
            return NO;
        }
        model[row] = (BitSet) model[other].clone();
        return model[row].cardinality();
    }

    private int look(int row, int what) {
        if (!isRow(row) || what < 0 || what > 2) {
            return NO;
        }
        BitSet bits = model[row];
        return what == 0 ? bits.cardinality() : what == 1 ? bits.length() : bits.isEmpty() ? 1 : 0;
    }

    private int meet(int row, int what, int other) {
        if (!isRow(row) || !isRow(other) || what < 0 || what > 1) {
            return NO;
        }
        boolean so = what == 0 ? model[row].intersects(model[other]) : model[row].equals(model[other]);
        return so ? 1 : 0;
    }

    private long word(int row, int n) {
        if (!isRow(row) || n < 0 || n > 62) {
            return NO_LONG;
        }
        long bits = 0;
        for (int i = 63; i >= 0; i--) {
            bits = bits * 2 + (model[row].get(64 * n + i) ? 1 : 0);
        }
        return bits;
    }

    private long[] load(int row, long a, long b, long c) {
        call = "load[" + row + ", " + a + ", " + b + ", " + c + "]";
        int got = board.load(row, a, b, c);
        if (!isRow(row)) {
            return pair(got, NO);
        }
        model[row] = BitSet.valueOf(new long[] {a, b, c});
        return pair(got, model[row].cardinality());
    }

    private long walk(int row) {
        if (!isRow(row)) {
            return NO_LONG;
        }
        long sum = 0;
        long before = 0;
        for (int place = 0; place <= 4000; place++) {
            if (model[row].get(place)) {
                sum += place * (before + 1);
                before++;
            }
        }
        return sum;
    }

    private int clear(int row) {
        if (!isRow(row)) {
            return NO;
        }
        int before = model[row].cardinality();
        model[row] = new BitSet();
        return before;
    }

    private int text(int row) {
        if (!isRow(row) || model[row].length() > 128) {
            return NO;
        }
        latest = model[row].toString();
        return latest.length();
    }
}
