import java.math.BigInteger;

/** Objects with the numbers that the tests begin from. */
final class Numbers {
    static final long INFINITE = 0x7FF0000000000000L;
    static final long SMALL_INFINITE = 0x7F800000L;

    private Numbers() {
    }

    static long bits(double v) {
        return Double.doubleToRawLongBits(v);
    }

    static long bits(float v) {
        return Float.floatToRawIntBits(v) & 0xFFFFFFFFL;
    }

    static ExactDigits of(long v) {
        ExactDigits x = new ExactDigits();
        x.whole(v);
        return x;
    }

    /** A text such as 12 or 12.5, put digit by digit. */
    static ExactDigits of(String text) {
        ExactDigits x = new ExactDigits();
        int dot = text.indexOf('.');
        int place = dot < 0 ? -text.length() : -dot;
        for (int i = 0; i < text.length(); i++) {
            if (i != dot) {
                x.put(place, text.charAt(i) - '0');
                place++;
            }
        }
        return x;
    }

    static ExactDigits moved(long v, int k) {
        ExactDigits x = of(v);
        x.move(k);
        return x;
    }

    static ExactDigits shifted(long v, int k) {
        ExactDigits x = of(v);
        x.shift(k);
        return x;
    }

    /** The digits of v first, POINT 1000, and the tail's digits as the last of 1200. */
    static ExactDigits withTail(long v, String tail) {
        ExactDigits x = of(v);
        x.move(1000 - x.told(1));
        for (int i = 0; i < tail.length(); i++) {
            x.put(200 - tail.length() + i, tail.charAt(i) - '0');
        }
        return x;
    }

    /** The digits of v alone, POINT 1000, LESS; v and its double have as many digits. */
    static ExactDigits lessOf(long v) {
        ExactDigits x = withTail(2 * v, "1");
        x.shift(-1);
        return x;
    }

    /** 2 to the -2200, which has 1538 digits: 1200 are kept. */
    static ExactDigits fullAndLess() {
        return shifted(1, -2200);
    }

    /** Objects in all the states that a refused call must leave alone. */
    static ExactDigits[] allKinds() {
        return new ExactDigits[] {
            new ExactDigits(), of(7), of("12.5"), of("0.0305"), moved(3, 5000), moved(3, -5000),
            withTail(1, "7"), lessOf(15), fullAndLess()
        };
    }

    /** All digits of two to the power (of five, if it is below 0, which are those of a negative power). */
    static String digitsOfTwoTo(int power) {
        return BigInteger.valueOf(power < 0 ? 5 : 2).pow(Math.abs(power)).toString();
    }

    static String withoutZerosBehind(String digits) {
        return digits.replaceAll("0+$", "");
    }

    static String zeros(int n) {
        return "0".repeat(n);
    }
}
