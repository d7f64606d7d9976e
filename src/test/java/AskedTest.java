import java.math.BigInteger;

/** Promises 10 to 13, by which a NUMBER is asked for: each sentence with a test of its own. */
public final class AskedTest {
    private static final int[] WILD = {Integer.MAX_VALUE, Integer.MIN_VALUE};

    private final Checks checks = new Checks();

    public static void main(String[] args) {
        AskedTest test = new AskedTest();
        test.ofPromises10And11();
        test.ofPromise12();
        test.ofPromise13();
        test.checks.end();
    }

    private void ofPromises10And11() {
        checks.sentence("Promise 10: Digit k from the POINT on (as by put)", this::digitOrdinary);
        checks.sentence("Promise 10: 0 where none is", this::digitWhereNoneIs);
        checks.sentence("Promise 10: for any k", this::digitForAny);
        checks.sentence("Promise 11: What 0: how many DIGITS", this::toldCount);
        checks.sentence("Promise 11: 1: POINT", this::toldPoint);
        checks.sentence("Promise 11: 2: 1 if it is LESS, else 0", this::toldLess);
        checks.sentence("Promise 11: IllegalArgumentException for others", this::toldRefused);
        checks.sentence("Promises 10 to 13: (what is asked for stays)", this::askedStays);
    }

    private void ofPromise12() {
        checks.sentence("Promise 12: The bits of the double nearest to the NUMBER", this::nearestDouble);
        checks.sentence("Promise 12: (small) float, nearest to the NUMBER", this::nearestFloat);
        checks.sentence("Promise 12: (as a long not below 0)", this::nearestNotBelowZero);
        checks.sentence("Promise 12: of two the even one", this::nearestEven);
        checks.sentence("Promise 12: (a little above or below the middle)", this::nearestByALittle);
        checks.sentence("Promise 12: of two the even one (at the least doubles)", this::nearestLeastDouble);
        checks.sentence("Promise 12: of two the even one (at the least floats)", this::nearestLeastFloat);
        checks.sentence("Promise 12: (0, far below the least)", this::nearestZero);
        checks.sentence("Promise 12: (what LESS lost counts)", this::nearestLess);
        checks.sentence("Promise 12: infinite beyond them (doubles)", this::nearestInfinite);
        checks.sentence("Promise 12: infinite beyond them (floats)", this::nearestSmallInfinite);
        checks.sentence("Promise 12: (every power of two and its middles)", this::nearestAtPowersOfTwo);
    }

    private void ofPromise13() {
        checks.sentence("Promise 13: from 7 on", this::digestOfZero);
        checks.sentence("Promise 13: for each times 31 and it", this::digestOfDigits);
        checks.sentence("Promise 13: then times 31 and the POINT", this::digestOfPoint);
        checks.sentence("Promise 13: All DIGITS (a sum that wraps around)", this::digestWraps);
    }

    private void digitOrdinary() {
        digits(Numbers.of("7012.305"), -4, "7012305");
        digits(Numbers.of(9), -1, "9");
        digits(Numbers.of("0.9"), 0, "9");
        digits(Numbers.of("0.09"), 1, "9");
        digits(Numbers.moved(9, 5000), -5001, "9");
        digits(Numbers.moved(9, -5000), 4999, "9");
        ExactDigits full = Numbers.withTail(123, "78");
        checks.due("digit(-1000)", full.digit(-1000), 1);
        checks.due("digit(198)", full.digit(198), 7);
        checks.due("digit(199)", full.digit(199), 8);
    }

    /** The digits from this place on, and 0 before and behind them. */
    private void digits(ExactDigits x, int k, String due) {
        String wider = "000" + due + "000";
        for (int i = 0; i < wider.length(); i++) {
            checks.due("digit(" + (k + i - 3) + ") of " + due, x.digit(k + i - 3), wider.charAt(i) - '0');
        }
    }

    private void digitWhereNoneIs() {
        ExactDigits cut = Numbers.of("987.65");
        cut.cut(-1);
        digits(cut, -3, "98");
        ExactDigits round = Numbers.of("1.9987");
        round.round(2);
        digits(round, -1, "2");
        ExactDigits shorter = Numbers.shifted(1, -1716);
        shorter.whole(25);
        digits(shorter, -2, "25");
        ExactDigits zero = Numbers.of(98765);
        zero.whole(0);
        for (int k = -8; k <= 8; k++) {
            checks.due("digit(" + k + ") of 0", zero.digit(k), 0);
        }
        ExactDigits full = Numbers.shifted(1, -1716);
        checks.due("digit(515), before the first", full.digit(515), 0);
        checks.due("digit(516), the first", full.digit(516), Numbers.digitsOfTwoTo(-1716).charAt(0) - '0');
        checks.due("digit(1715), the last", full.digit(1715), 5);
        checks.due("digit(1716), behind the last", full.digit(1716), 0);
    }

    private void digitForAny() {
        int[] far = {WILD[0], WILD[1], WILD[0] - 1, WILD[1] + 1, WILD[0] - 5000, WILD[1] + 5001, 65536, -65536,
            10001, -10002, 1 << 30, -1 << 30};
        for (ExactDigits x : Numbers.allKinds()) {
            for (int k : far) {
                checks.due("digit(" + k + ")", x.digit(k), 0);
            }
        }
        ExactDigits high = Numbers.moved(9, 5000);
        high.move(4999);
        checks.due("digit(MAX) of POINT 10000", high.digit(WILD[0]), 0);
        checks.due("digit(-10000) of POINT 10000", high.digit(-10000), 9);
        ExactDigits low = Numbers.moved(9, -5000);
        low.move(-5000);
        checks.due("digit(MIN) of POINT -9999", low.digit(WILD[1]), 0);
        checks.due("digit(9999) of POINT -9999", low.digit(9999), 9);
    }

    private void toldCount() {
        checks.due("told(0) of 0", new ExactDigits().told(0), 0);
        checks.due("told(0) of 0.0125", Numbers.of("0.0125").told(0), 3);
        checks.due("told(0) of 10000", Numbers.of(10000).told(0), 1);
        checks.due("told(0) of 10..07", Numbers.withTail(1, "7").told(0), 1200);
        checks.due("told(0) of LESS", Numbers.lessOf(15).told(0), 2);
    }

    private void toldPoint() {
        checks.due("told(1) of 0", new ExactDigits().told(1), 0);
        checks.due("told(1) of 0.0125", Numbers.of("0.0125").told(1), -1);
        checks.due("told(1) of 0.125", Numbers.of("0.125").told(1), 0);
        checks.due("told(1) of 10000", Numbers.of(10000).told(1), 5);
        checks.due("told(1) of LESS", Numbers.lessOf(15).told(1), 1000);
        checks.due("told(1) of 2^-2200", Numbers.fullAndLess().told(1), -662);
    }

    private void toldLess() {
        checks.due("told(2) of 0", new ExactDigits().told(2), 0);
        checks.due("told(2) of 0.0125", Numbers.of("0.0125").told(2), 0);
        checks.due("told(2) of 10..07", Numbers.withTail(1, "7").told(2), 0);
        checks.due("told(2) of 2^-1716", Numbers.shifted(1, -1716).told(2), 0);
        checks.due("told(2) of 2^-1717", Numbers.shifted(1, -1717).told(2), 1);
        checks.due("told(2) of LESS", Numbers.lessOf(15).told(2), 1);
    }

    private void toldRefused() {
        for (int what : new int[] {3, -1, 4, -2, 10, 256, 257, WILD[0], WILD[1]}) {
            for (ExactDigits x : Numbers.allKinds()) {
                checks.refused("told(" + what + ")", x, () -> x.told(what));
            }
        }
    }

    private void askedStays() {
        ExactDigits[] asked = Numbers.allKinds();
        ExactDigits[] alone = Numbers.allKinds();
        for (int i = 0; i < asked.length; i++) {
            ExactDigits x = asked[i];
            x.digit(0);
            x.told(0);
            x.nearest(false);
            x.nearest(true);
            x.digest();
            checks.due("digest() after all that is asked", x.digest(), alone[i].digest());
            checks.due("told(2) after all that is asked", x.told(2), alone[i].told(2));
            checks.due("nearest(false) once more", x.nearest(false), alone[i].nearest(false));
            checks.due("nearest(true) once more", x.nearest(true), alone[i].nearest(true));
        }
    }

    private void nearestDouble(ExactDigits x, long due) {
        checks.due("nearest(false) of POINT " + x.told(1) + ", digest " + x.digest(), x.nearest(false), due);
    }

    private void nearestFloat(ExactDigits x, long due) {
        checks.due("nearest(true) of POINT " + x.told(1) + ", digest " + x.digest(), x.nearest(true), due);
    }

    private void nearestDouble() {
        nearestDouble(new ExactDigits(), 0);
        nearestDouble(Numbers.of(1), Numbers.bits(1.0));
        nearestDouble(Numbers.of("0.1"), Numbers.bits(0.1));
        nearestDouble(Numbers.of("3.14159265358979323846"), Numbers.bits(Math.PI));
        nearestDouble(Numbers.of(-1), Numbers.bits(0x1p64));
        nearestDouble(Numbers.moved(1, 308), Numbers.bits(1e308));
        nearestDouble(Numbers.moved(1, -308), Numbers.bits(1e-308));
        nearestDouble(Numbers.moved(1, -323), 2);
        for (int k = -323; k <= 308; k++) {
            nearestDouble(Numbers.moved(1, k), Numbers.bits(Double.parseDouble("1e" + k)));
            nearestDouble(Numbers.moved(9999999999999999L, k - 15),
                Numbers.bits(Double.parseDouble("9999999999999999e" + (k - 15))));
        }
    }

    private void nearestFloat() {
        nearestFloat(new ExactDigits(), 0);
        nearestFloat(Numbers.of(1), Numbers.bits(1f));
        nearestFloat(Numbers.of("0.1"), Numbers.bits(0.1f));
        nearestFloat(Numbers.of("3.14159265358979323846"), Numbers.bits((float) Math.PI));
        nearestFloat(Numbers.of(-1), Numbers.bits(0x1p64f));
        for (int k = -45; k <= 38; k++) {
            nearestFloat(Numbers.moved(1, k), Numbers.bits(Float.parseFloat("1e" + k)));
            nearestFloat(Numbers.moved(9999999L, k - 6),
                Numbers.bits(Float.parseFloat("9999999e" + (k - 6))));
        }
        // not by way of the nearest double, which lies in the very middle of two floats
        ExactDigits x = Numbers.of((1L << 60) + (1L << 36) + 1);
        x.shift(-60);
        nearestDouble(x, Numbers.bits(1.0) + (1L << 28));
        nearestFloat(x, Numbers.bits(1f) + 1);
    }

    private void nearestNotBelowZero() {
        ExactDigits x = new ExactDigits();
        x.real(Numbers.bits(-3.5), false);
        nearestDouble(x, Numbers.bits(3.5));
        nearestFloat(x, Numbers.bits(3.5f));
        x.real(Numbers.bits(-Float.MAX_VALUE), true);
        nearestFloat(x, 0x7F7FFFFFL);
        x.real(Numbers.bits(-0.0), false);
        nearestDouble(x, 0);
        nearestFloat(x, 0);
        nearestFloat(Numbers.moved(1, 5000), 0x7F800000L);
        nearestDouble(Numbers.moved(1, 5000), 0x7FF0000000000000L);
    }

    private void nearestEven() {
        nearestDouble(Numbers.of(9007199254740993L), Numbers.bits(9007199254740992.0));
        nearestDouble(Numbers.of(9007199254740995L), Numbers.bits(9007199254740996.0));
        nearestDouble(Numbers.of(9007199254740997L), Numbers.bits(9007199254740996.0));
        nearestFloat(Numbers.of(16777217), Numbers.bits(16777216f));
        nearestFloat(Numbers.of(16777219), Numbers.bits(16777220f));
        nearestFloat(Numbers.of(16777221), Numbers.bits(16777220f));
        // the even one is a power of two
        nearestDouble(Numbers.of((1L << 54) - 1), Numbers.bits(0x1p54));
        nearestFloat(Numbers.of((1L << 25) - 1), Numbers.bits(0x1p25f));
        nearestDouble(Numbers.shifted((1L << 53) + 1, -1000), Numbers.bits(0x1p-947));
        nearestDouble(Numbers.shifted((1L << 53) + 3, 900), Numbers.bits(0x1p953) + 2);
    }

    private void nearestByALittle() {
        ExactDigits above = Numbers.of("9007199254740993");
        above.put(400, 1);
        nearestDouble(above, Numbers.bits(9007199254740994.0));
        nearestDouble(Numbers.of("9007199254740992.9999999999999999999999"), Numbers.bits(0x1p53));
        nearestDouble(Numbers.of("9007199254740994.9999999999999999999999"), Numbers.bits(0x1p53) + 1);
        nearestFloat(Numbers.of("16777217.0000000000000000000000000001"), Numbers.bits(16777218f));
        nearestFloat(Numbers.of("16777218.9999999999999999999999999999"), Numbers.bits(16777218f));
        // the 1200th DIGIT tells
        ExactDigits full = Numbers.of(9007199254740993L);
        full.move(800 - 16);
        full.put(399, 1);
        full.move(-784);
        checks.due("told(0) of a full one", full.told(0), 1200);
        nearestDouble(full, Numbers.bits(9007199254740994.0));
        full.cut(1000);
        nearestDouble(full, Numbers.bits(9007199254740992.0));
    }

    private void nearestLeastDouble() {
        nearestDouble(Numbers.shifted(1, -1074), 1);
        nearestDouble(Numbers.shifted(1, -1075), 0);
        nearestDouble(Numbers.shifted(3, -1076), 1);
        nearestDouble(Numbers.shifted(3, -1075), 2);
        nearestDouble(Numbers.shifted(5, -1075), 2);
        nearestDouble(Numbers.shifted(1, -1076), 0);
        nearestDouble(Numbers.moved(247, -326), 0);
        nearestDouble(Numbers.moved(248, -326), 1);
        nearestDouble(Numbers.shifted((1L << 53) - 1, -1075), Numbers.bits(Double.MIN_NORMAL));
        nearestDouble(Numbers.shifted((1L << 53) - 3, -1075), Numbers.bits(Double.MIN_NORMAL) - 2);
        nearestDouble(Numbers.shifted(1, -1022), Numbers.bits(Double.MIN_NORMAL));
        nearestDouble(Numbers.shifted((1L << 53) + 1, -1075), Numbers.bits(Double.MIN_NORMAL));
        ExactDigits above = Numbers.of(1);
        above.put(400, 1);
        above.shift(-1075);
        nearestDouble(above, 1);
    }

    private void nearestLeastFloat() {
        nearestFloat(Numbers.shifted(1, -149), 1);
        nearestFloat(Numbers.shifted(1, -150), 0);
        nearestFloat(Numbers.shifted(3, -151), 1);
        nearestFloat(Numbers.shifted(3, -150), 2);
        nearestFloat(Numbers.shifted(5, -150), 2);
        nearestFloat(Numbers.shifted(1, -151), 0);
        nearestFloat(Numbers.moved(7, -46), 0);
        nearestFloat(Numbers.moved(8, -46), 1);
        nearestFloat(Numbers.shifted((1L << 24) - 1, -150), Numbers.bits(Float.MIN_NORMAL));
        nearestFloat(Numbers.shifted((1L << 24) - 3, -150), Numbers.bits(Float.MIN_NORMAL) - 2);
        nearestFloat(Numbers.shifted(1, -126), Numbers.bits(Float.MIN_NORMAL));
        nearestFloat(Numbers.shifted((1L << 24) + 1, -150), Numbers.bits(Float.MIN_NORMAL));
        ExactDigits above = Numbers.of(1);
        above.put(400, 1);
        above.shift(-150);
        nearestFloat(above, 1);
    }

    private void nearestZero() {
        for (int k : new int[] {-324, -325, -330, -331, -332, -1000, -5000}) {
            nearestDouble(Numbers.moved(1, k), 0);
            nearestFloat(Numbers.moved(1, k), 0);
        }
        for (int k : new int[] {-46, -47, -60, -100, -300}) {
            nearestFloat(Numbers.moved(1, k), 0);
        }
        nearestDouble(Numbers.fullAndLess(), 0);
        nearestFloat(Numbers.fullAndLess(), 0);
    }

    private void nearestLess() {
        ExactDigits middle = lessAt(18014398509481986L, 17);
        nearestDouble(Numbers.of(18014398509481986L), Numbers.bits(0x1p54));
        nearestDouble(middle, Numbers.bits(0x1p54) + 1);
        middle.cut(2000);
        nearestDouble(middle, Numbers.bits(0x1p54));
        ExactDigits small = lessAt(16777217, 8);
        nearestFloat(small, Numbers.bits(16777218f));
        small.round(2000);
        nearestFloat(small, Numbers.bits(16777216f));
        // from the middle upwards it is, whichever of the two is even
        nearestFloat(lessAt(33554434, 8), Numbers.bits(33554436f));
        nearestFloat(lessAt(33554438, 8), Numbers.bits(33554440f));
        // the middle of 0 and the least
        ExactDigits least = lessOfTwoTo(-1075);
        checks.due("told(2) of 2^-1075 and a little", least.told(2), 1);
        nearestDouble(least, 1);
        nearestFloat(lessOfTwoTo(-150), 1);
        // not in the middle: what was lost changes nothing
        nearestDouble(lessAt(2, 1), Numbers.bits(2.0));
        nearestFloat(lessAt(2, 1), Numbers.bits(2f));
        nearestFloat(lessAt(16777216, 8), Numbers.bits(16777216f));
    }

    private static ExactDigits lessAt(long v, int point) {
        ExactDigits x = Numbers.lessOf(v);
        x.move(point - 1000);
        return x;
    }

    /** The power of two itself, LESS by a digit that came as the 1200th and went. */
    private static ExactDigits lessOfTwoTo(int power) {
        ExactDigits x = Numbers.lessOf(1);
        x.move(-999);
        x.shift(power);
        return x;
    }

    private void nearestInfinite() {
        nearestDouble(Numbers.moved(17976931348623157L, 292), Numbers.INFINITE - 1);
        nearestDouble(Numbers.moved(17976931348623159L, 292), Numbers.INFINITE);
        nearestDouble(Numbers.moved(1, 309), Numbers.INFINITE);
        nearestDouble(Numbers.moved(1, 310), Numbers.INFINITE);
        nearestDouble(Numbers.moved(1, 311), Numbers.INFINITE);
        nearestDouble(Numbers.moved(1, 5000), Numbers.INFINITE);
        nearestDouble(Numbers.moved(99999999999999999L, 292), Numbers.INFINITE);
        nearestDouble(Numbers.shifted(1, 1023), Numbers.bits(0x1p1023));
        for (int k = 1024; k <= 1040; k++) {
            nearestDouble(Numbers.shifted(1, k), Numbers.INFINITE);
        }
        nearestDouble(Numbers.shifted(1, 2200), Numbers.INFINITE);
        // the greatest, then the middle behind it, of which the infinite is the even one
        nearestDouble(Numbers.shifted((1L << 53) - 1, 971), Numbers.INFINITE - 1);
        ExactDigits middle = Numbers.shifted((1L << 54) - 1, 970);
        nearestDouble(middle, Numbers.INFINITE);
        middle.cut(-1);
        nearestDouble(middle, Numbers.INFINITE - 1);
    }

    private void nearestSmallInfinite() {
        nearestFloat(Numbers.moved(34028235, 31), Numbers.SMALL_INFINITE - 1);
        nearestFloat(Numbers.moved(34028236, 31), Numbers.SMALL_INFINITE);
        nearestFloat(Numbers.moved(1, 39), Numbers.SMALL_INFINITE);
        nearestFloat(Numbers.moved(1, 308), Numbers.SMALL_INFINITE);
        nearestFloat(Numbers.moved(1, 309), Numbers.SMALL_INFINITE);
        nearestFloat(Numbers.moved(1, 5000), Numbers.SMALL_INFINITE);
        nearestFloat(Numbers.shifted(1, 127), Numbers.bits(0x1p127f));
        for (int k = 128; k <= 140; k++) {
            nearestFloat(Numbers.shifted(1, k), Numbers.SMALL_INFINITE);
        }
        nearestFloat(Numbers.shifted(1, 2200), Numbers.SMALL_INFINITE);
        nearestFloat(Numbers.shifted((1L << 24) - 1, 104), Numbers.SMALL_INFINITE - 1);
        ExactDigits middle = Numbers.shifted((1L << 25) - 1, 103);
        nearestFloat(middle, Numbers.SMALL_INFINITE);
        middle.cut(-1);
        nearestFloat(middle, Numbers.SMALL_INFINITE - 1);
    }

    private void nearestAtPowersOfTwo() {
        for (int k = -1022; k <= 1023; k++) {
            long power = (long) (k + 1023) << 52;
            nearestDouble(Numbers.shifted(1, k), power);
            nearestDouble(Numbers.shifted((1L << 53) + 1, k - 53), power);
            nearestDouble(Numbers.shifted((1L << 53) + 3, k - 53), power + 2);
        }
        for (int k = -126; k <= 127; k++) {
            long power = (long) (k + 127) << 23;
            nearestFloat(Numbers.shifted(1, k), power);
            nearestFloat(Numbers.shifted((1L << 24) + 1, k - 24), power);
            nearestFloat(Numbers.shifted((1L << 24) + 3, k - 24), power + 2);
        }
    }

    private void digestOfZero() {
        checks.due("digest() of 0", new ExactDigits().digest(), 217);
        ExactDigits x = Numbers.of(98765);
        x.cut(-2000);
        checks.due("digest() of 0 by cut", x.digest(), 217);
    }

    private void digestOfDigits() {
        checks.due("digest() of 1", Numbers.of(1).digest(), (7 * 31 + 1) * 31 + 1);
        checks.due("digest() of 12", Numbers.of(12).digest(), 209562);
        checks.due("digest() of 21", Numbers.of(21).digest(), ((7 * 31 + 2) * 31 + 1) * 31 + 2);
        // a 0 between others counts as well
        checks.due("digest() of 102", Numbers.of(102).digest(), (((7 * 31 + 1) * 31) * 31 + 2) * 31 + 3);
        checks.due("digest() of 9", Numbers.of(9).digest(), (7 * 31 + 9) * 31 + 1);
    }

    private void digestOfPoint() {
        checks.due("digest() of 120", Numbers.of(120).digest(), 209563);
        checks.due("digest() of 0.12", Numbers.of("0.12").digest(), 209560);
        checks.due("digest() of 0.0005", Numbers.of("0.0005").digest(), (7 * 31 + 5) * 31 - 3);
        checks.due("digest() of 10^5000", Numbers.moved(1, 5000).digest(), (7 * 31 + 1) * 31 + 5001);
        checks.due("digest() of 10^-5000", Numbers.moved(1, -5000).digest(), (7 * 31 + 1) * 31 - 4999);
    }

    private void digestWraps() {
        checks.due("digest() of 2^64 - 1", Numbers.of(-1).digest(), 1724774085980613128L);
        // 7 times 31 to the 13th is above the greatest long
        checks.due("digest() of 123456789012", Numbers.of(123456789012L).digest(), sumOf("123456789012", 12));
        checks.due("digest() of 1234567890123", Numbers.of(1234567890123L).digest(), sumOf("1234567890123", 13));
        checks.due("digest() of 2^-1716", Numbers.shifted(1, -1716).digest(),
            sumOf(Numbers.digitsOfTwoTo(-1716), -516));
        checks.due("digest() of 2^-1717", Numbers.shifted(1, -1717).digest(),
            sumOf(Numbers.digitsOfTwoTo(-1717).substring(0, 1200), -516));
    }

    /** In whole numbers of any size, of which the low 64 bits are the wrapped sum. */
    private static long sumOf(String digits, int point) {
        BigInteger times = BigInteger.valueOf(31);
        BigInteger sum = BigInteger.valueOf(7);
        for (int i = 0; i < digits.length(); i++) {
            sum = sum.multiply(times).add(BigInteger.valueOf(digits.charAt(i) - '0'));
        }
        return sum.multiply(times).add(BigInteger.valueOf(point)).longValue();
    }
}
