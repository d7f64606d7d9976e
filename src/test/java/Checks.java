import java.util.function.LongSupplier;

/** Counts and prints the calls whose answer is not the one that is due, by the document's sentences. */
final class Checks {
    /** So many digits at each end are asked for one by one; an object has 512 calls and no more. */
    private static final int ASKED = 60;

    private int wrong = 0;
    private int seen = 0;

    /** One sentence of the document and the test of its own that fails if it does not hold. */
    void sentence(String words, Runnable test) {
        int wrongBefore = wrong;
        int seenBefore = seen;
        try {
            test.run();
        } catch (RuntimeException e) {
            wrong++;
            System.out.println("a call that is not to throw threw " + e + " at " + e.getStackTrace()[0]);
        }
        if (seen == seenBefore) {
            wrong++;
            System.out.println("no answer was seen");
        }
        if (wrong != wrongBefore) {
            System.out.println("DOES NOT HOLD: " + words);
        }
    }

    void due(String call, long got, long want) {
        seen++;
        if (got != want) {
            wrong++;
            System.out.println(call + " answered " + got + ", due is " + want);
        }
    }

    /** The call throws just this exception, and the NUMBER stays as it was. */
    void dueThrow(String call, ExactDigits x, Class<?> kind, LongSupplier made) {
        long digest = x.digest();
        int count = x.told(0);
        int point = x.told(1);
        int less = x.told(2);
        seen++;
        try {
            long got = made.getAsLong();
            wrong++;
            System.out.println(call + " answered " + got + ", due is " + kind.getName());
        } catch (RuntimeException e) {
            if (e.getClass() != kind) {
                wrong++;
                System.out.println(call + " threw " + e + ", due is " + kind.getName());
            }
        }
        due("digest() after a thrown " + call, x.digest(), digest);
        due("told(0) after a thrown " + call, x.told(0), count);
        due("told(1) after a thrown " + call, x.told(1), point);
        due("told(2) after a thrown " + call, x.told(2), less);
    }

    void refused(String call, ExactDigits x, LongSupplier made) {
        dueThrow(call, x, IllegalArgumentException.class, made);
    }

    /** The whole state: the DIGITS as a text, POINT and whether it is LESS. */
    void state(String after, ExactDigits x, String digits, int point, int less) {
        due("told(0) after " + after, x.told(0), digits.length());
        due("told(1) after " + after, x.told(1), point);
        due("told(2) after " + after, x.told(2), less);
        due("digit(" + (-1 - point) + ") after " + after, x.digit(-1 - point), 0);
        long sum = 7;
        for (int i = 0; i < digits.length(); i++) {
            int d = digits.charAt(i) - '0';
            if (i < ASKED || i >= digits.length() - ASKED) {
                due("digit(" + (i - point) + ") after " + after, x.digit(i - point), d);
            }
            sum = sum * 31 + d;
        }
        int behind = digits.length() - point;
        due("digit(" + behind + ") after " + after, x.digit(behind), 0);
        due("digest() after " + after, x.digest(), sum * 31 + point);
    }

    /** A call that changes the NUMBER and answers how many DIGITS, and the state behind it. */
    void becomes(String call, ExactDigits x, LongSupplier made, String digits, int point, int less) {
        due(call, made.getAsLong(), digits.length());
        state(call, x, digits, point, less);
    }

    void end() {
        System.out.println(seen + " answers seen, " + wrong + " not as due");
        if (wrong != 0 || seen == 0) {
            System.exit(1);
        }
    }
}
