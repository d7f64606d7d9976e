/** Promises 1 to 4, by which a NUMBER is given: each sentence with a test of its own. */
public final class GivenTest {
    private static final long[] HIGH_HALVES = {
        0, 0x100000000L, 0x7FF0000000000000L, 0x7FF8000000000000L, 0x7FFFFFFF00000000L,
        0x8000000000000000L, 0xFFF0000000000000L, 0xFFFFFFFF00000000L, 0x123456789ABCDEFL << 32
    };

    private final Checks checks = new Checks();

    public static void main(String[] args) {
        GivenTest test = new GivenTest();
        test.ofPromises1And2();
        test.ofPromise3();
        test.ofPromise4();
        test.checks.end();
    }

    private void ofPromises1And2() {
        checks.sentence("Promise 1: The NUMBER is 0.", this::newIsZero);
        checks.sentence("Promise 1: A new object (is not another one)", this::newIsNoOther);
        checks.sentence("Promise 2: The NUMBER is v: how many DIGITS", this::wholeOrdinary);
        checks.sentence("Promise 2: v as one without sign (0 to 2^64 - 1)", this::wholeWithoutSign);
        checks.sentence("Promise 2: v as one without sign, of all sizes", this::wholeOfAllSizes);
    }

    private void ofPromise3() {
        checks.sentence("Promise 3: the double with these bits: how many DIGITS", this::realDouble);
        checks.sentence("Promise 3: the size (without its sign)", this::realWithoutSign);
        checks.sentence("Promise 3: (the least and the greatest double)", this::realDoubleEnds);
        checks.sentence("Promise 3: (small) of the float", this::realFloat);
        checks.sentence("Promise 3: (the least and the greatest float)", this::realFloatEnds);
        checks.sentence("Promise 3: with the low 32, the others do not matter", this::realLowHalf);
        checks.sentence("Promise 3: ArithmeticException if that is NaN", this::realNaN);
        checks.sentence("Promise 3: ArithmeticException if that is infinite", this::realInfinite);
        checks.sentence("Promise 3: (it stays)", this::realStays);
    }

    private void ofPromise4() {
        checks.sentence("Promise 4: of those that read back as it, the shortest", this::shortestOrdinary);
        checks.sentence("Promise 4: of at least two digits", this::shortestOfTwoDigits);
        checks.sentence("Promise 4: of these the nearest", this::shortestNearest);
        checks.sentence("Promise 4: of two the one with an even last digit", this::shortestEven);
        checks.sentence("Promise 4: of those that read back (at a power of two)", this::shortestAtPowersOfTwo);
        checks.sentence("Promise 4: of those that read back (at the span's end)", this::shortestAtSpansEnd);
        checks.sentence("Promise 4: (the least and the greatest)", this::shortestEnds);
        checks.sentence("Promise 4: Likewise without its sign, and of 0", this::shortestWithoutSign);
        checks.sentence("Promise 4: Likewise the low 32, the others do not matter", this::shortestLowHalf);
        checks.sentence("Promise 4: Likewise ArithmeticException if that is NaN", this::shortestNaN);
        checks.sentence("Promise 4: Likewise ArithmeticException if that is infinite", this::shortestInfinite);
        checks.sentence("Promise 4: Likewise (it stays)", this::shortestStays);
    }

    private void newIsZero() {
        ExactDigits x = new ExactDigits();
        checks.state("new ExactDigits()", x, "", 0, 0);
        checks.due("digest()", x.digest(), 217);
        checks.due("nearest(false)", x.nearest(false), 0);
        checks.due("nearest(true)", x.nearest(true), 0);
        checks.due("digit(0)", x.digit(0), 0);
        ExactDigits low = new ExactDigits();
        checks.becomes("put(400, 3)", low, () -> low.put(400, 3), "3", -400, 0);
        ExactDigits high = new ExactDigits();
        checks.becomes("put(-400, 3)", high, () -> high.put(-400, 3), "3", 400, 0);
    }

    private void newIsNoOther() {
        ExactDigits first = Numbers.fullAndLess();
        ExactDigits second = new ExactDigits();
        checks.state("new beside another", second, "", 0, 0);
        second.whole(34);
        ExactDigits third = Numbers.of("0.12");
        first.whole(56);
        second.shift(1);
        checks.state("the first of three", first, "56", 2, 0);
        checks.state("the second of three", second, "68", 2, 0);
        checks.state("the third of three", third, "12", 0, 0);
    }

    private void wholeOrdinary() {
        whole(0, "", 0);
        whole(1, "1", 1);
        whole(10, "1", 2);
        whole(1020, "102", 4);
        whole(123456789012345678L, "123456789012345678", 18);
        whole(999999999L, "999999999", 9);
        whole(1000000000L, "1", 10);
        whole(1000000001L, "1000000001", 10);
        whole(1000000000000000000L, "1", 19);
    }

    private void wholeWithoutSign() {
        whole(Long.MAX_VALUE, "9223372036854775807", 19);
        whole(Long.MIN_VALUE, "9223372036854775808", 19);
        whole(Long.MIN_VALUE + 1, "9223372036854775809", 19);
        whole(-8446744073709551617L, "9999999999999999999", 19);
        whole(-8446744073709551616L, "1", 20);
        whole(-616, "18446744073709551", 20);
        whole(-2, "18446744073709551614", 20);
        whole(-1, "18446744073709551615", 20);
    }

    /** From 0 up, and on both sides of every power of two and of multiples of 10 to the 9 and 18. */
    private void wholeOfAllSizes() {
        for (long v = 0; v <= 1200; v++) {
            wholeAsText(v);
            wholeAsText(-1 - v);
            wholeAsText(Long.MAX_VALUE - v);
            wholeAsText(Long.MIN_VALUE + v);
        }
        for (int bit = 0; bit < 64; bit++) {
            wholeRound(1L << bit);
            wholeRound(-1L << bit);
        }
        for (long i = 1; i <= 18; i++) {
            wholeRound(i * 1000000000000000000L);
            wholeRound(i * 1000000000L);
            wholeRound((18446744073L - i + 1) * 1000000000L);
            wholeRound((9223372036L + i - 9) * 1000000000L);
        }
    }

    private void wholeRound(long v) {
        for (long near = -2; near <= 2; near++) {
            wholeAsText(v + near);
        }
    }

    private void wholeAsText(long v) {
        String text = v == 0 ? "" : Long.toUnsignedString(v);
        whole(v, Numbers.withoutZerosBehind(text), text.length());
    }

    private void whole(long v, String digits, int point) {
        ExactDigits x = Numbers.fullAndLess();
        checks.becomes("whole(" + v + ")", x, () -> x.whole(v), digits, point, 0);
    }

    private void real(long bits, boolean small, String digits, int point) {
        ExactDigits x = Numbers.fullAndLess();
        checks.becomes("real(" + bits + ", " + small + ")", x, () -> x.real(bits, small), digits, point, 0);
    }

    private void realDouble() {
        real(Numbers.bits(0.0), false, "", 0);
        real(Numbers.bits(1.0), false, "1", 1);
        real(Numbers.bits(1.5), false, "15", 1);
        real(Numbers.bits(0.1), false, "1000000000000000055511151231257827021181583404541015625", 0);
        real(Numbers.bits(1e23), false, "99999999999999991611392", 23);
        real(Numbers.bits(0x1p1023), false, Numbers.digitsOfTwoTo(1023), 308);
        real(Numbers.bits(0x1p-1000), false, Numbers.digitsOfTwoTo(-1000), -301);
    }

    private void realWithoutSign() {
        real(Numbers.bits(-0.0), false, "", 0);
        real(Numbers.bits(-1.0), false, "1", 1);
        real(Numbers.bits(-0.1), false, "1000000000000000055511151231257827021181583404541015625", 0);
        real(Numbers.bits(-0.0f), true, "", 0);
        real(Numbers.bits(-6.25f), true, "625", 1);
        real(-1L << 63 | 1, false, Numbers.digitsOfTwoTo(-1074), -323);
        real(0x80000001L, true, Numbers.digitsOfTwoTo(-149), -44);
    }

    private void realDoubleEnds() {
        real(1, false, Numbers.digitsOfTwoTo(-1074), -323);
        real(Numbers.bits(Double.MIN_NORMAL), false, Numbers.digitsOfTwoTo(-1022), -307);
        realHas(4503599627370495L, false, 767, -307);
        realHas(4503599627370496L, false, 715, -307);
        realHas(4503599627370497L, false, 767, -307);
        realHas(Numbers.INFINITE - 1, false, 309, 309);
    }

    private void realFloat() {
        real(Numbers.bits(0.0f), true, "", 0);
        real(Numbers.bits(1f), true, "1", 1);
        real(Numbers.bits(0.1f), true, "100000001490116119384765625", 0);
        real(Numbers.bits(16777215f), true, "16777215", 8);
        // the same bits without small are another number
        realHas(Numbers.bits(1f), false, 737, -314);
    }

    private void realFloatEnds() {
        real(1, true, Numbers.digitsOfTwoTo(-149), -44);
        real(Numbers.bits(Float.MIN_NORMAL), true, Numbers.digitsOfTwoTo(-126), -37);
        realHas(8388607, true, 112, -37);
        realHas(8388609, true, 112, -37);
        real(Numbers.SMALL_INFINITE - 1, true, "34028234663852885981170418348451692544", 39);
        realHas(Numbers.SMALL_INFINITE, false, 738, -313);
    }

    private void realHas(long bits, boolean small, int count, int point) {
        ExactDigits x = Numbers.fullAndLess();
        String call = "real(" + bits + ", " + small + ")";
        checks.due(call, x.real(bits, small), count);
        checks.due("told(0) after " + call, x.told(0), count);
        checks.due("told(1) after " + call, x.told(1), point);
        checks.due("told(2) after " + call, x.told(2), 0);
        checks.due("nearest after " + call, x.nearest(small), bits);
    }

    private void realLowHalf() {
        for (long high : HIGH_HALVES) {
            real(Numbers.bits(0.1f) | high, true, "100000001490116119384765625", 0);
            real(Numbers.bits(-6.25f) | high, true, "625", 1);
            real(high, true, "", 0);
            real(0x80000000L | high, true, "", 0);
            real(1 | high, true, Numbers.digitsOfTwoTo(-149), -44);
            real(Numbers.SMALL_INFINITE - 1 | high, true, "34028234663852885981170418348451692544", 39);
        }
    }

    private void realNaN() {
        for (long bits : new long[] {Numbers.bits(Double.NaN), Numbers.INFINITE + 1, Long.MAX_VALUE, -1,
                Numbers.bits(Double.NEGATIVE_INFINITY) + 1}) {
            realThrows(bits, false);
        }
        for (long high : HIGH_HALVES) {
            realThrows(Numbers.bits(Float.NaN) | high, true);
            realThrows(Numbers.SMALL_INFINITE + 1 | high, true);
            realThrows(0x7FFFFFFFL | high, true);
            realThrows(0xFF800001L | high, true);
            realThrows(0xFFFFFFFFL | high, true);
        }
    }

    private void realInfinite() {
        realThrows(Numbers.INFINITE, false);
        realThrows(Numbers.bits(Double.NEGATIVE_INFINITY), false);
        for (long high : HIGH_HALVES) {
            realThrows(Numbers.SMALL_INFINITE | high, true);
            realThrows(Numbers.bits(Float.NEGATIVE_INFINITY) | high, true);
        }
    }

    private void realStays() {
        for (ExactDigits x : Numbers.allKinds()) {
            long nearest = x.nearest(false);
            realThrows(x, Numbers.bits(Double.NaN), false);
            realThrows(x, Numbers.INFINITE, false);
            realThrows(x, Numbers.bits(Float.NaN), true);
            realThrows(x, Numbers.SMALL_INFINITE, true);
            checks.due("nearest(false) after what was thrown", x.nearest(false), nearest);
        }
    }

    private void realThrows(long bits, boolean small) {
        realThrows(Numbers.of("12.5"), bits, small);
    }

    private void realThrows(ExactDigits x, long bits, boolean small) {
        checks.dueThrow("real(" + bits + ", " + small + ")", x, ArithmeticException.class,
            () -> x.real(bits, small));
    }

    private void shortest(long bits, boolean small, String digits, int point) {
        ExactDigits x = Numbers.fullAndLess();
        String call = "shortest(" + bits + ", " + small + ")";
        checks.becomes(call, x, () -> x.shortest(bits, small), digits, point, 0);
        long size = bits & (small ? 0x7FFFFFFFL : Long.MAX_VALUE);
        checks.due("nearest after " + call, x.nearest(small), size);
    }

    private void shortestOrdinary() {
        shortest(Numbers.bits(1.0), false, "1", 1);
        shortest(Numbers.bits(0.1), false, "1", 0);
        shortest(Numbers.bits(0.1 + 0.2), false, "30000000000000004", 0);
        shortest(Numbers.bits(123456.789), false, "123456789", 6);
        shortest(Numbers.bits(2e-3), false, "2", -2);
        shortest(Numbers.bits(9007199254740992.0), false, "9007199254740992", 16);
        shortest(Numbers.bits(3.3f), true, "33", 1);
        shortest(Numbers.bits(0.1f), true, "1", 0);
        shortest(Numbers.bits(16777216f), true, "16777216", 8);
        // Java before 19 wrote these with more digits than are due
        shortest(Numbers.bits(2e23), false, "2", 24);
        shortest(Numbers.bits(8.41E21), false, "841", 22);
        shortest(Numbers.bits(1.0E23), false, "1", 24);
        shortest(Numbers.bits(2.2E-322), false, "22", -321);
    }

    /** One digit would read back, but of two digits there is a nearer one. */
    private void shortestOfTwoDigits() {
        shortest(1, false, "49", -323);
        shortest(2, false, "99", -323);
        shortest(3, false, "15", -322);
        shortest(1, true, "14", -44);
        shortest(2, true, "28", -44);
        shortest(3, true, "42", -44);
        // and here it is the nearest of two digits as well
        shortest(4, false, "2", -322);
        shortest(5, true, "7", -44);
    }

    private void shortestNearest() {
        // 1.235..: of three digits 1.22 to 1.25 read back
        shortest(25, false, "124", -321);
        // 4.94.. and 6.42..: of two digits more than one reads back
        shortest(10, false, "49", -322);
        shortest(13, false, "64", -322);
        shortest(Numbers.bits(2.0E-322), false, "2", -321);
        shortest(Numbers.bits(Float.MIN_NORMAL), true, "11754944", -37);
        shortest(Numbers.bits(5e-324 * 7), false, "35", -322);
        shortest(Numbers.bits(Math.PI), false, "3141592653589793", 1);
        shortest(Numbers.bits((float) Math.PI), true, "31415927", 1);
    }

    /** Halves of the exact number's last digits but one: as near above as below. */
    private void shortestEven() {
        shortest(Numbers.bits(0x1p-25), false, "29802322387695312", -7);
        shortest(Numbers.bits(3 * 0x1p-24), false, "17881393432617188", -6);
        shortest(Numbers.bits(0x1p-12f), true, "24414062", -3);
        shortest(Numbers.bits(3 * 0x1p-11f), true, "14648438", -2);
    }

    private void shortestAtPowersOfTwo() {
        // as near, but the even one, below a power of two, does not read back
        shortest(Numbers.bits(0x1p-24), false, "5960464477539063", -7);
        // the nearer one, below a power of two, does not read back; the further one above does
        shortest(Numbers.bits(0x1p-44), false, "5684341886080802", -13);
    }

    /** The very middle to the next double (float) reads back as the even one of the two. */
    private void shortestAtSpansEnd() {
        shortest(Numbers.bits(1e23), false, "1", 24);
        shortest(Numbers.bits(1e23) + 1, false, "10000000000000001", 24);
        shortest(1343554297, true, "1", 11);
        shortest(1343554296, true, "9999999", 10);
    }

    private void shortestEnds() {
        shortest(Numbers.INFINITE - 1, false, "17976931348623157", 309);
        shortest(Numbers.bits(Double.MIN_NORMAL), false, "22250738585072014", -307);
        shortest(Numbers.bits(Double.MIN_NORMAL) - 1, false, "2225073858507201", -307);
        shortest(Numbers.SMALL_INFINITE - 1, true, "34028235", 39);
        shortest(Numbers.bits(Float.MIN_NORMAL) - 1, true, "11754942", -37);
    }

    private void shortestWithoutSign() {
        shortest(Numbers.bits(0.0), false, "", 0);
        shortest(Numbers.bits(-0.0), false, "", 0);
        shortest(Numbers.bits(0.0f), true, "", 0);
        shortest(Numbers.bits(-0.0f), true, "", 0);
        shortest(Numbers.bits(-0.1), false, "1", 0);
        shortest(Numbers.bits(-3.3f), true, "33", 1);
        shortest(-1L << 63 | 1, false, "49", -323);
        shortest(0x80000001L, true, "14", -44);
    }

    private void shortestLowHalf() {
        for (long high : HIGH_HALVES) {
            shortest(Numbers.bits(3.3f) | high, true, "33", 1);
            shortest(Numbers.bits(-0.1f) | high, true, "1", 0);
            shortest(high, true, "", 0);
            shortest(1 | high, true, "14", -44);
            shortest(Numbers.SMALL_INFINITE - 1 | high, true, "34028235", 39);
        }
    }

    private void shortestNaN() {
        for (long bits : new long[] {Numbers.bits(Double.NaN), Numbers.INFINITE + 1, Long.MAX_VALUE, -1,
                Numbers.bits(Double.NEGATIVE_INFINITY) + 1}) {
            shortestThrows(Numbers.of("12.5"), bits, false);
        }
        for (long high : HIGH_HALVES) {
            shortestThrows(Numbers.of("12.5"), Numbers.bits(Float.NaN) | high, true);
            shortestThrows(Numbers.of("12.5"), Numbers.SMALL_INFINITE + 1 | high, true);
            shortestThrows(Numbers.of("12.5"), 0xFFFFFFFFL | high, true);
        }
    }

    private void shortestInfinite() {
        shortestThrows(Numbers.of("12.5"), Numbers.INFINITE, false);
        shortestThrows(Numbers.of("12.5"), Numbers.bits(Double.NEGATIVE_INFINITY), false);
        for (long high : HIGH_HALVES) {
            shortestThrows(Numbers.of("12.5"), Numbers.SMALL_INFINITE | high, true);
            shortestThrows(Numbers.of("12.5"), Numbers.bits(Float.NEGATIVE_INFINITY) | high, true);
        }
    }

    private void shortestStays() {
        for (ExactDigits x : Numbers.allKinds()) {
            long nearest = x.nearest(false);
            shortestThrows(x, Numbers.bits(Double.NaN), false);
            shortestThrows(x, Numbers.INFINITE, false);
            shortestThrows(x, Numbers.bits(Float.NaN), true);
            shortestThrows(x, Numbers.SMALL_INFINITE, true);
            checks.due("nearest(false) after what was thrown", x.nearest(false), nearest);
        }
    }

    private void shortestThrows(ExactDigits x, long bits, boolean small) {
        checks.dueThrow("shortest(" + bits + ", " + small + ")", x, ArithmeticException.class,
            () -> x.shortest(bits, small));
    }
}
