import java.util.function.LongSupplier;

/** Long runs of calls on new objects, each answer and the state behind it held against the model. */
public final class ModelTest {
    private static final int RUNS = 600;

    /** A call takes four more to look at the state, and an object has 512 and no more. */
    private static final int CALLS = 98;

    private static final long[] SIZES = {
        0L, 1L, 2L, 3L, 9L, 10L, 4503599627370495L, 4503599627370496L, 4503599627370497L,
        0x7FEFFFFFFFFFFFFFL, 0x7FF0000000000000L, 0x7FF0000000000001L, 0x7FF8000000000000L, -1L,
        0x3FF0000000000000L, 0x4340000000000000L, 0x433FFFFFFFFFFFFFL, 0x3E60000000000000L,
        0x3D30000000000000L, 4950912855330343670L, 8388607L, 8388608L, 8388609L, 0x7F7FFFFFL,
        0x7F800000L, 0x7F800001L, 0x7FC00000L, 0xFF800000L, 0x80000000L, 0x80000001L,
        0x123456783F800000L, 0x4B7FFFFFL, 0x4B800000L, 1343554297L, 0x8000000000000000L
    };
    private static final int[] EDGES = {
        0, 1, -1, 2, -2, 399, 400, 401, -399, -400, -401, 1199, 1200, 1201, 1999, 2000, 2001, -1999,
        -2000, -2001, 2199, 2200, 2201, -2200, -2201, 5000, 5001, -5000, -5001, 9999, 10000, -10000,
        Integer.MAX_VALUE, Integer.MIN_VALUE
    };

    private final Checks checks = new Checks();
    private long seed = 20261115L;
    private int made = 0;

    public static void main(String[] args) {
        ModelTest test = new ModelTest();
        for (int run = 1; run <= RUNS; run++) {
            test.run(run);
        }
        test.everyPowerOfTwo();
        test.manyOfEachExponent();
        test.checks.end();
    }

    /** The same numbers in every run of the test, so that a fault can be seen again. */
    private long next() {
        seed += 0x9E3779B97F4A7C15L;
        long z = seed;
        z = (z ^ (z >>> 30)) * 0xBF58476D1CE4E5B9L;
        z = (z ^ (z >>> 27)) * 0x94D049BB133111EBL;
        return z ^ (z >>> 31);
    }

    private int below(int n) {
        return (int) Long.remainderUnsigned(next(), n);
    }

    private int about(int n) {
        switch (below(8)) {
            case 0:
                return EDGES[below(EDGES.length)];
            case 1:
            case 2:
                return below(2 * n + 3) - n - 1;
            default:
                return below(61) - 30;
        }
    }

    private long bits() {
        switch (below(4)) {
            case 0:
                return SIZES[below(SIZES.length)];
            case 1:
                return next() >>> below(64);
            default:
                return next();
        }
    }

    private void run(int run) {
        ExactDigits x = new ExactDigits();
        Model m = new Model();
        made = 0;
        while (made < CALLS) {
            call("run " + run + ", call " + made + ": ", x, m);
        }
    }

    private void call(String where, ExactDigits x, Model m) {
        boolean small = below(2) == 0;
        long bits = bits();
        switch (below(16)) {
            case 0:
                both(where + "whole(" + bits + ")", x, m, () -> x.whole(bits), () -> m.whole(bits));
                break;
            case 1:
                both(where + "real(" + bits + ", " + small + ")", x, m,
                    () -> x.real(bits, small), () -> m.real(bits, small));
                break;
            case 2:
                both(where + "shortest(" + bits + ", " + small + ")", x, m,
                    () -> x.shortest(bits, small), () -> m.shortest(bits, small));
                break;
            case 3:
            case 4:
            case 5:
                callPut(where, x, m);
                break;
            case 6:
            case 7:
            case 8:
                callWithInt(where, x, m, below(2), about(2200));
                break;
            case 9:
                callNearHalf(where, x, m);
                break;
            case 10:
            case 11:
            case 12:
                callWithInt(where, x, m, 1 + below(5), about(5000));
                break;
            case 13:
                callAtLastDigits(where, x, m);
                break;
            default:
                both(where + "nearest(" + small + ")", x, m, () -> x.nearest(small), () -> m.nearest(small));
                break;
        }
    }

    private void callPut(String where, ExactDigits x, Model m) {
        int k = below(3) == 0 ? about(400) : m.number.scale() + below(4) - 1;
        int d = below(9) == 0 ? below(14) - 2 : below(10);
        both(where + "put(" + k + ", " + d + ")", x, m, () -> x.put(k, d), () -> m.put(k, d));
    }

    private void callWithInt(String where, ExactDigits x, Model m, int which, int k) {
        String with = "(" + k + ")";
        switch (which) {
            case 0:
                both(where + "shift" + with, x, m, () -> x.shift(k), () -> m.shift(k));
                break;
            case 1:
                both(where + "move" + with, x, m, () -> x.move(k), () -> m.move(k));
                break;
            case 2:
                both(where + "round" + with, x, m, () -> x.round(k), () -> m.round(k));
                break;
            case 3:
                both(where + "cut" + with, x, m, () -> x.cut(k), () -> m.cut(k));
                break;
            case 4:
                both(where + "digit" + with, x, m, () -> x.digit(k), () -> m.digit(k));
                break;
            default:
                both(where + "told" + with, x, m, () -> x.told(k), () -> m.told(k));
                break;
        }
    }

    /** Round and cut where DIGITS end or begin, for there the carries are. */
    private void callAtLastDigits(String where, ExactDigits x, Model m) {
        int end = below(2) == 0 ? m.number.scale() : -m.point();
        callWithInt(where, x, m, 2 + below(3), end + below(7) - 3);
    }

    /** The middle of two neighbours, or a little more of what does not fit the 1200 DIGITS. */
    private void callNearHalf(String where, ExactDigits x, Model m) {
        long odd = next() >>> 10 | 1;
        both(where + "whole(" + odd + ")", x, m, () -> x.whole(odd), () -> m.whole(odd));
        callWithInt(where, x, m, 0, below(2150) - 1150);
        callPut(where, x, m);
        both(where + "nearest(false)", x, m, () -> x.nearest(false), () -> m.nearest(false));
    }

    private void both(String call, ExactDigits x, Model m, LongSupplier got, LongSupplier due) {
        made++;
        checks.due(call, answer(got), answer(due));
        checks.due("digest() after " + call, x.digest(), m.digest());
        checks.due("told(0) after " + call, x.told(0), m.count());
        checks.due("told(1) after " + call, x.told(1), m.point());
        checks.due("told(2) after " + call, x.told(2), m.less ? 1 : 0);
    }

    /** No right answer is so far below 0, so a throw cannot be taken for one. */
    private static long answer(LongSupplier call) {
        try {
            return call.getAsLong();
        } catch (IllegalArgumentException e) {
            return Long.MIN_VALUE + 1;
        } catch (ArithmeticException e) {
            return Long.MIN_VALUE + 2;
        }
    }

    private void everyPowerOfTwo() {
        for (long field = 0; field < 2047; field++) {
            texts(field << 52, false);
            texts((field << 52) + 1, false);
            texts(Math.max((field << 52) - 1, 0), false);
        }
        for (int bit = 0; bit < 52; bit++) {
            texts(1L << bit, false);
        }
        for (long field = 0; field < 255; field++) {
            texts(field << 23, true);
            texts((field << 23) + 1, true);
            texts(Math.max((field << 23) - 1, 0), true);
        }
    }

    private void manyOfEachExponent() {
        for (int i = 0; i < 3000; i++) {
            texts(Long.remainderUnsigned(next(), 0x7FF0000000000000L), false);
            texts(Long.remainderUnsigned(next(), 0x7F800000L), true);
        }
    }

    private void texts(long bits, boolean small) {
        ExactDigits x = new ExactDigits();
        Model m = new Model();
        String of = "(" + bits + ", " + small + ")";
        both("real" + of, x, m, () -> x.real(bits, small), () -> m.real(bits, small));
        checks.due("nearest behind real" + of, x.nearest(small), bits);
        both("shortest" + of, x, m, () -> x.shortest(bits, small), () -> m.shortest(bits, small));
        checks.due("nearest behind shortest" + of, x.nearest(small), bits);
    }
}
