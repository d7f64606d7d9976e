/** Counts and prints the calls whose answer is not the one that is due. */
final class Checks {
    private int wrong = 0;
    private int seen = 0;

    interface Call {
        long answer();
    }

    void due(String call, long got, long want) {
        seen++;
        if (got != want) {
            wrong++;
            System.out.println(call + " answered " + got + ", due is " + want);
        }
    }

    /** The call throws just this exception, and the NUMBER stays as it was. */
    void dueThrow(String call, ExactDigits x, Class<?> kind, Call made) {
        long digest = x.digest();
        int less = x.told(2);
        seen++;
        try {
            long got = made.answer();
            wrong++;
            System.out.println(call + " answered " + got + ", due is " + kind.getName());
        } catch (RuntimeException e) {
            if (e.getClass() != kind) {
                wrong++;
                System.out.println(call + " threw " + e + ", due is " + kind.getName());
            }
        }
        due("digest() after a thrown " + call, x.digest(), digest);
        due("told(2) after a thrown " + call, x.told(2), less);
    }

    void refused(String call, ExactDigits x, Call made) {
        dueThrow(call, x, IllegalArgumentException.class, made);
    }

    /** The whole state: the DIGITS as a text, POINT and whether it is LESS. */
    void state(String after, ExactDigits x, String digits, int point, int less) {
        due("told(0) after " + after, x.told(0), digits.length());
        due("told(1) after " + after, x.told(1), point);
        due("told(2) after " + after, x.told(2), less);
        long sum = 7;
        for (int i = 0; i < digits.length(); i++) {
            int d = digits.charAt(i) - '0';
            due("digit(" + (i - point) + ") after " + after, x.digit(i - point), d);
            sum = sum * 31 + d;
        }
        due("digest() after " + after, x.digest(), sum * 31 + point);
    }

    void end() {
        System.out.println(seen + " answers seen, " + wrong + " not as due");
        if (wrong != 0 || seen == 0) {
            System.exit(1);
        }
    }
}
