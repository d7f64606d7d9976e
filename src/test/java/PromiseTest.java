/** For each promise its ordinary inputs, the edges that the document names, and wrong inputs. */
public final class PromiseTest {
    private static final long INFINITE = 0x7FF0000000000000L;
    private static final long SMALL_INFINITE = 0x7F800000L;
    private static final int[] WILD = {Integer.MAX_VALUE, Integer.MIN_VALUE};

    private final Checks checks = new Checks();

    public static void main(String[] args) {
        PromiseTest test = new PromiseTest();
        test.promise1NewObject();
        test.promise2Whole();
        test.promise2WholeOfAllSizes();
        test.promise3Real();
        test.promise3RealRefuses();
        test.promise4Shortest();
        test.promise4ShortestNeighbours();
        test.promise5Put();
        test.promise5PutFarBehind();
        test.promise5PutRefuses();
        test.promise5PutRefusesLess();
        test.promise6Shift();
        test.promise6ShiftLoses();
        test.promise7Move();
        test.promise7MoveRefuses();
        test.promise8Round();
        test.promise8RoundLess();
        test.promise9Cut();
        test.promises8And9Refuse();
        test.promise10Digit();
        test.promise11Told();
        test.promise12Nearest();
        test.promise12NearestGreatest();
        test.promise12NearestLeast();
        test.promise12NearestLess();
        test.promise13Digest();
        test.allCallsOfAnObject();
        test.checks.end();
    }

    private static long bits(double v) {
        return Double.doubleToRawLongBits(v);
    }

    private static long bits(float v) {
        return Float.floatToRawIntBits(v) & 0xFFFFFFFFL;
    }

    private static ExactDigits of(long v) {
        ExactDigits x = new ExactDigits();
        x.whole(v);
        return x;
    }

    /** A text such as 12 or 12.5, put digit by digit. */
    private static ExactDigits of(String text) {
        ExactDigits x = new ExactDigits();
        int dot = text.indexOf('.');
        int place = dot < 0 ? -text.length() : -dot;
        for (int i = 0; i < text.length(); i++) {
            if (i != dot) {
                x.put(place, text.charAt(i) - '0');
                place++;
            }
        }
        return x;
    }

    /** The digits of v first, POINT 1000, and another digit as the 1200th. */
    private static ExactDigits withTail(long v, int last) {
        ExactDigits x = of(v);
        x.move(1000 - x.told(1));
        x.put(199, last);
        return x;
    }

    /** The digits of v alone, POINT 1000, LESS; v and its double have as many digits. */
    private static ExactDigits lessOf(long v) {
        ExactDigits x = withTail(2 * v, 1);
        x.shift(-1);
        return x;
    }

    private static ExactDigits fullAndLess() {
        ExactDigits x = of(1);
        x.shift(-2200);
        return x;
    }

    private void promise1NewObject() {
        checks.state("new ExactDigits()", new ExactDigits(), "", 0, 0);
        checks.due("nearest(false) of a new object", new ExactDigits().nearest(false), 0);
    }

    private void promise2Whole() {
        whole(0, "", 0);
        whole(1, "1", 1);
        whole(10, "1", 2);
        whole(1020, "102", 4);
        whole(999999999L, "999999999", 9);
        whole(1000000000L, "1", 10);
        whole(1000000001L, "1000000001", 10);
        whole(1000000000000000000L, "1", 19);
        whole(Long.MAX_VALUE, "9223372036854775807", 19);
        whole(Long.MIN_VALUE, "9223372036854775808", 19);
        whole(-616, "18446744073709551", 20);
        whole(-1, "18446744073709551615", 20);
    }

    /** From 0 up, and on both sides of every power of two and of multiples of 10 to the 9 and 18. */
    private void promise2WholeOfAllSizes() {
        for (long v = 0; v <= 1200; v++) {
            wholeAsText(v);
            wholeAsText(-1 - v);
            wholeAsText(Long.MAX_VALUE - v);
            wholeAsText(Long.MIN_VALUE + v);
        }
        for (int bit = 0; bit < 64; bit++) {
            wholeRound(1L << bit);
            wholeRound(-1L << bit);
        }
        for (long i = 1; i <= 18; i++) {
            wholeRound(i * 1000000000000000000L);
            wholeRound(i * 1000000000L);
            wholeRound((18446744073L - i + 1) * 1000000000L);
            wholeRound((9223372036L + i - 9) * 1000000000L);
        }
    }

    private void wholeRound(long v) {
        for (long near = -2; near <= 2; near++) {
            wholeAsText(v + near);
        }
    }

    private void wholeAsText(long v) {
        String text = v == 0 ? "" : Long.toUnsignedString(v);
        whole(v, text.replaceAll("0+$", ""), text.length());
    }

    private void whole(long v, String digits, int point) {
        ExactDigits x = fullAndLess();
        checks.due("whole(" + v + ")", x.whole(v), digits.length());
        checks.state("whole(" + v + ")", x, digits, point, 0);
    }

    private void promise3Real() {
        real(bits(0.0), false, "", 0);
        real(bits(-0.0), false, "", 0);
        real(bits(1.0), false, "1", 1);
        real(bits(-1.5), false, "15", 1);
        real(bits(0.1), false, "1000000000000000055511151231257827021181583404541015625", 0);
        real(bits(1e23), false, "99999999999999991611392", 23);
        real(bits(0.1f), true, "100000001490116119384765625", 0);
        real(bits(-0.0f), true, "", 0);
        real(bits(-0.25f) | 0x7FFABCDE00000000L, true, "25", 0);
        realHas(1, false, 751, -323);
        realHas(4503599627370495L, false, 767, -307);
        realHas(4503599627370496L, false, 715, -307);
        realHas(INFINITE - 1, false, 309, 309);
        realHas(1, true, 105, -44);
        realHas(8388607, true, 112, -37);
        realHas(SMALL_INFINITE - 1, true, 38, 39);
        realHas(SMALL_INFINITE, false, 738, -313);
    }

    private void real(long bits, boolean small, String digits, int point) {
        ExactDigits x = fullAndLess();
        String call = "real(" + bits + ", " + small + ")";
        checks.due(call, x.real(bits, small), digits.length());
        checks.state(call, x, digits, point, 0);
    }

    private void realHas(long bits, boolean small, int count, int point) {
        ExactDigits x = fullAndLess();
        String call = "real(" + bits + ", " + small + ")";
        checks.due(call, x.real(bits, small), count);
        checks.due("told(0) after " + call, x.told(0), count);
        checks.due("told(1) after " + call, x.told(1), point);
        checks.due("told(2) after " + call, x.told(2), 0);
        checks.due("nearest after " + call, x.nearest(small), bits);
    }

    private void promise3RealRefuses() {
        noNumber(bits(Double.POSITIVE_INFINITY), false);
        noNumber(bits(Double.NEGATIVE_INFINITY), false);
        noNumber(bits(Double.NaN), false);
        noNumber(INFINITE + 1, false);
        noNumber(-1, false);
        noNumber(bits(Float.POSITIVE_INFINITY), true);
        noNumber(bits(Float.NEGATIVE_INFINITY), true);
        noNumber(bits(Float.NaN), true);
        noNumber(SMALL_INFINITE + 1, true);
        noNumber(0x100000000L | SMALL_INFINITE, true);
        noNumber(-1, true);
    }

    private void noNumber(long bits, boolean small) {
        String of = "(" + bits + ", " + small + ")";
        ExactDigits[] objects = {new ExactDigits(), of("12.5"), fullAndLess()};
        for (ExactDigits x : objects) {
            checks.dueThrow("real" + of, x, ArithmeticException.class, () -> x.real(bits, small));
            checks.dueThrow("shortest" + of, x, ArithmeticException.class, () -> x.shortest(bits, small));
        }
    }

    private void promise4Shortest() {
        shortest(bits(0.0), false, "", 0);
        shortest(bits(-0.0), false, "", 0);
        shortest(bits(1.0), false, "1", 1);
        shortest(bits(-0.1), false, "1", 0);
        shortest(bits(0.1 + 0.2), false, "30000000000000004", 0);
        shortest(bits(123456.789), false, "123456789", 6);
        shortest(bits(2e-3), false, "2", -2);
        shortest(bits(Double.MAX_VALUE), false, "17976931348623157", 309);
        shortest(bits(Double.MIN_NORMAL), false, "22250738585072014", -307);
        shortest(bits(9007199254740992.0), false, "9007199254740992", 16);
        shortest(bits(0.0f), true, "", 0);
        shortest(bits(-3.3f), true, "33", 1);
        shortest(bits(0.1f), true, "1", 0);
        shortest(bits(Float.MAX_VALUE), true, "34028235", 39);
        shortest(bits(Float.MIN_NORMAL), true, "11754944", -37);
        shortest(bits(16777216f), true, "16777216", 8);
        shortest(bits(3.3f) | 0x7FF0000000000000L, true, "33", 1);
    }

    private void promise4ShortestNeighbours() {
        // one digit would read back, but of two digits there is a nearer one
        shortest(1, false, "49", -323);
        shortest(2, false, "99", -323);
        shortest(3, false, "15", -322);
        shortest(1, true, "14", -44);
        shortest(2, true, "28", -44);
        // Java before 19 wrote these with more digits, or not with the nearest
        shortest(bits(2e23), false, "2", 24);
        shortest(bits(8.41E21), false, "841", 22);
        shortest(bits(2.0E-322), false, "2", -321);
        // as near above as below: the even last digit
        shortest(bits(0x1p-25), false, "29802322387695312", -7);
        shortest(bits(3 * 0x1p-24), false, "17881393432617188", -6);
        shortest(bits(0x1p-12f), true, "24414062", -3);
        shortest(bits(3 * 0x1p-11f), true, "14648438", -2);
        // as near, but the even one, below a power of two, does not read back
        shortest(bits(0x1p-24), false, "5960464477539063", -7);
        // the nearer one, below a power of two, does not read back; the further one above does
        shortest(bits(0x1p-44), false, "5684341886080802", -13);
        // at the very end of the span: reads back if the double (float) is even
        shortest(bits(1e23), false, "1", 24);
        shortest(1343554297, true, "1", 11);
        shortest(1343554296, true, "9999999", 10);
    }

    private void shortest(long bits, boolean small, String digits, int point) {
        ExactDigits x = fullAndLess();
        String call = "shortest(" + bits + ", " + small + ")";
        checks.due(call, x.shortest(bits, small), digits.length());
        checks.state(call, x, digits, point, 0);
    }

    private void promise5Put() {
        ExactDigits x = of(5);
        checks.due("put(0, 5)", x.put(0, 5), 2);
        checks.state("put(0, 5)", x, "55", 1, 0);
        checks.due("put(1, 0)", x.put(1, 0), 2);
        checks.state("put(1, 0)", x, "55", 1, 0);
        checks.due("put(3, 7)", x.put(3, 7), 5);
        checks.state("put(3, 7)", x, "55007", 1, 0);
        x.whole(100);
        checks.due("put(-1, 3) behind 100", x.put(-1, 3), 3);
        checks.state("put(-1, 3) behind 100", x, "103", 3, 0);
        x.whole(100);
        checks.due("put(-2, 4) behind 100", x.put(-2, 4), 2);
        checks.state("put(-2, 4) behind 100", x, "14", 3, 0);
        x.whole(98765);
        x.whole(1);
        checks.due("put(2, 6) where old digits were", x.put(2, 6), 4);
        checks.state("put(2, 6) where old digits were", x, "1006", 1, 0);
    }

    private void promise5PutFarBehind() {
        ExactDigits x = new ExactDigits();
        checks.due("put(-400, 0) to 0", x.put(-400, 0), 0);
        checks.due("put(400, 0) to 0", x.put(400, 0), 0);
        checks.state("put(400, 0) to 0", x, "", 0, 0);
        checks.due("put(400, 9) to 0", x.put(400, 9), 1);
        checks.state("put(400, 9) to 0", x, "9", -400, 0);
        x.whole(0);
        checks.due("put(-400, 9) to 0", x.put(-400, 9), 1);
        checks.state("put(-400, 9) to 0", x, "9", 400, 0);
        checks.due("put(400, 1)", x.put(400, 1), 801);
        checks.state("put(400, 1)", x, "9" + "0".repeat(799) + "1", 400, 0);
        x.whole(1);
        x.move(999);
        checks.due("put(199, 0), the 1200th", x.put(199, 0), 1);
        checks.due("put(199, 3), the 1200th", x.put(199, 3), 1200);
        checks.state("put(199, 3), the 1200th", x, "1" + "0".repeat(1198) + "3", 1000, 0);
    }

    private void promise5PutRefuses() {
        ExactDigits x = of("5.0007");
        putRefused(x, 4, -1);
        putRefused(x, 4, 10);
        putRefused(x, 401, 1);
        putRefused(x, -401, 1);
        for (int wild : WILD) {
            putRefused(x, wild, 1);
            putRefused(x, 4, wild);
            putRefused(new ExactDigits(), wild, 0);
        }
        putRefused(x, 3, 1);
        putRefused(x, 3, 0);
        putRefused(x, 2, 1);
        putRefused(x, -1, 1);
        putRefused(x, -2, 1);
        putRefused(x, -400, 0);
        putRefused(new ExactDigits(), 401, 0);
        putRefused(new ExactDigits(), -401, 0);
        putRefused(new ExactDigits(), 0, 10);
        ExactDigits high = of(1);
        high.move(1000);
        putRefused(high, 199, 0);
        putRefused(high, 199, 1);
        putRefused(high, 400, 1);
        checks.due("put(198, 2)", high.put(198, 2), 1200);
        ExactDigits low = of(1);
        low.move(-5000);
        putRefused(low, 400, 1);
    }

    private void promise5PutRefusesLess() {
        ExactDigits x = lessOf(1);
        checks.state("LESS", x, "1", 1000, 1);
        putRefused(x, 199, 0);
        putRefused(x, 199, 1);
        putRefused(x, 0, 1);
        x.cut(2000);
        checks.due("put(0, 1), LESS no more", x.put(0, 1), 1001);
        putRefused(fullAndLess(), 400, 1);
    }

    private void putRefused(ExactDigits x, int k, int d) {
        checks.refused("put(" + k + ", " + d + ")", x, () -> x.put(k, d));
    }

    private void promise6Shift() {
        ExactDigits x = of(3);
        checks.due("shift(0)", x.shift(0), 1);
        checks.state("shift(0)", x, "3", 1, 0);
        checks.due("shift(10)", x.shift(10), 4);
        checks.state("shift(10)", x, "3072", 4, 0);
        checks.due("shift(-12)", x.shift(-12), 2);
        checks.state("shift(-12)", x, "75", 0, 0);
        checks.due("shift(2200)", x.shift(2200), 663);
        checks.due("shift(-2200)", x.shift(-2200), 2);
        checks.state("shift(-2200)", x, "75", 0, 0);
        x.whole(5);
        checks.due("shift(1) of 5", x.shift(1), 1);
        checks.state("shift(1) of 5", x, "1", 2, 0);
        x.whole(0);
        checks.due("shift(2200) of 0", x.shift(2200), 0);
        checks.due("shift(-2200) of 0", x.shift(-2200), 0);
        checks.state("shift(-2200) of 0", x, "", 0, 0);
        for (int k : new int[] {2201, -2201, WILD[0], WILD[1]}) {
            ExactDigits y = fullAndLess();
            checks.refused("shift(" + k + ")", y, () -> y.shift(k));
            ExactDigits zero = new ExactDigits();
            checks.refused("shift(" + k + ") of 0", zero, () -> zero.shift(k));
        }
    }

    private void promise6ShiftLoses() {
        ExactDigits x = of(1);
        checks.due("shift(-1716)", x.shift(-1716), 1200);
        checks.due("told(2) with 1200 DIGITS", x.told(2), 0);
        checks.due("shift(-1)", x.shift(-1), 1200);
        checks.due("told(2) with one more", x.told(2), 1);
        checks.due("shift(0) of LESS", x.shift(0), 1200);
        checks.due("told(2) after shift(0) of LESS", x.told(2), 1);
        ExactDigits y = withTail(2, 1);
        checks.due("shift(-1) of 20..01", y.shift(-1), 1);
        checks.state("shift(-1) of 20..01", y, "1", 1000, 1);
        checks.due("shift(1) of what is kept", y.shift(1), 1);
        checks.state("shift(1) of what is kept", y, "2", 1000, 1);
        ExactDigits z = withTail(1, 7);
        checks.due("shift(-1) of 10..07", z.shift(-1), 1200);
        checks.state("shift(-1) of 10..07", z, "5" + "0".repeat(1197) + "35", 999, 0);
        ExactDigits carry = withTail(9, 5);
        checks.due("shift(1) of 90..05", carry.shift(1), 1200);
        checks.state("shift(1) of 90..05", carry, "18" + "0".repeat(1197) + "1", 1001, 0);
        ExactDigits lost = withTail(9, 3);
        checks.due("shift(1) of 90..03", lost.shift(1), 2);
        checks.state("shift(1) of 90..03", lost, "18", 1001, 1);
    }

    private void promise7Move() {
        ExactDigits x = of(12);
        checks.due("move(3)", x.move(3), 5);
        checks.state("move(3)", x, "12", 5, 0);
        checks.due("move(-7)", x.move(-7), -2);
        checks.state("move(-7)", x, "12", -2, 0);
        checks.due("move(0)", x.move(0), -2);
        checks.due("move(5000)", x.move(5000), 4998);
        checks.due("move(-5000)", x.move(-5000), -2);
        ExactDigits zero = new ExactDigits();
        checks.due("move(5000) of 0", zero.move(5000), 0);
        checks.due("move(-5000) of 0", zero.move(-5000), 0);
        checks.state("move(-5000) of 0", zero, "", 0, 0);
        ExactDigits less = lessOf(1);
        checks.due("move(-4) of LESS", less.move(-4), 996);
        checks.state("move(-4) of LESS", less, "1", 996, 1);
    }

    private void promise7MoveRefuses() {
        ExactDigits high = of(1);
        high.move(5000);
        checks.due("move(4999)", high.move(4999), 10000);
        checks.refused("move(1)", high, () -> high.move(1));
        checks.due("move(0)", high.move(0), 10000);
        high.shift(2200);
        checks.due("told(1) behind shift(2200)", high.told(1), 10662);
        checks.refused("move(0) beyond 10000", high, () -> high.move(0));
        checks.refused("move(-661) beyond 10000", high, () -> high.move(-661));
        checks.due("move(-662) beyond 10000", high.move(-662), 10000);
        ExactDigits low = of(1);
        low.move(-5000);
        low.move(-5000);
        checks.due("move(-1)", low.move(-1), -10000);
        checks.refused("move(-1)", low, () -> low.move(-1));
        for (int k : new int[] {5001, -5001, WILD[0], WILD[1]}) {
            ExactDigits one = of(1);
            checks.refused("move(" + k + ")", one, () -> one.move(k));
            ExactDigits zero = new ExactDigits();
            checks.refused("move(" + k + ") of 0", zero, () -> zero.move(k));
        }
    }

    private void promise8Round() {
        round("123456", -3, "123", 6);
        round("123500", -3, "124", 6);
        round("123499", -3, "123", 6);
        round("99", -1, "1", 3);
        round("95", -2, "1", 3);
        round("50", -2, "1", 3);
        round("49", -2, "", 0);
        round("99", -3, "", 0);
        round("1999", -1, "2", 4);
        round("1094", -1, "109", 4);
        round("1004", -1, "1", 4);
        round("0", 2000, "", 0);
        round("0", -2000, "", 0);
        round("12", 0, "12", 2);
        round("12", 2000, "12", 2);
        round("12", -2000, "", 0);
        round("0.125", 2, "13", 0);
        round("0.375", 2, "38", 0);
        round("0.124", 3, "124", 0);
        round("0.5", 0, "1", 1);
        round("0.4999", 0, "", 0);
        round("0.05", 0, "", 0);
        round("0.05", 1, "1", 0);
        round("9.996", 2, "1", 2);
        round("1.0049", 2, "1", 1);
    }

    private void round(String text, int n, String digits, int point) {
        ExactDigits x = of(text);
        String call = "round(" + n + ") of " + text;
        checks.due(call, x.round(n), digits.length());
        checks.state(call, x, digits, point, 0);
    }

    private void promise8RoundLess() {
        roundLess(lessOf(15), -999, "2", 1000);
        roundLess(lessOf(25), -999, "3", 1000);
        roundLess(lessOf(1499), -999, "1", 1000);
        roundLess(lessOf(15), -998, "15", 1000);
        roundLess(lessOf(15), 2000, "15", 1000);
        roundLess(lessOf(2), -1000, "", 0);
        // the lost digit is a 5, yet behind all DIGITS they stay
        ExactDigits full = withTail(2, 3);
        full.shift(-1);
        checks.due("told(2) before round(200)", full.told(2), 1);
        roundLess(full, 200, "1" + "0".repeat(1198) + "1", 1000);
    }

    private void roundLess(ExactDigits x, int n, String digits, int point) {
        checks.due("told(2) before round(" + n + ")", x.told(2), 1);
        checks.due("round(" + n + ") of LESS", x.round(n), digits.length());
        checks.state("round(" + n + ") of LESS", x, digits, point, 0);
    }

    private void promise9Cut() {
        cut(of("123999"), -3, "123", 6);
        cut(of("103999"), -4, "1", 6);
        cut(of("99"), -1, "9", 2);
        cut(of("99"), -2, "", 0);
        cut(of("99"), -3, "", 0);
        cut(of("0"), 2000, "", 0);
        cut(of("0"), -2000, "", 0);
        cut(of("12"), 0, "12", 2);
        cut(of("12"), 2000, "12", 2);
        cut(of("12"), -2000, "", 0);
        cut(of("0.999"), 2, "99", 0);
        cut(of("0.999"), 0, "", 0);
        cut(of("0.0999"), 1, "", 0);
        cut(of("1.0099"), 2, "1", 1);
        cut(lessOf(19), -999, "1", 1000);
        cut(lessOf(19), -998, "19", 1000);
        cut(lessOf(19), 2000, "19", 1000);
        cut(lessOf(19), -1000, "", 0);
    }

    private void cut(ExactDigits x, int n, String digits, int point) {
        String call = "cut(" + n + ") to " + digits;
        checks.due(call, x.cut(n), digits.length());
        checks.state(call, x, digits, point, 0);
    }

    private void promises8And9Refuse() {
        ExactDigits[] objects = {new ExactDigits(), of("12.5"), fullAndLess()};
        for (int n : new int[] {2001, -2001, WILD[0], WILD[1]}) {
            for (ExactDigits x : objects) {
                checks.refused("round(" + n + ")", x, () -> x.round(n));
                checks.refused("cut(" + n + ")", x, () -> x.cut(n));
            }
        }
    }

    private void promise10Digit() {
        ExactDigits x = of("7012.305");
        int[] due = {0, 0, 7, 0, 1, 2, 3, 0, 5, 0, 0};
        for (int i = 0; i < due.length; i++) {
            checks.due("digit(" + (i - 6) + ")", x.digit(i - 6), due[i]);
        }
        ExactDigits high = of(9);
        high.move(5000);
        ExactDigits low = of(9);
        low.move(-5000);
        checks.due("digit(-5001)", high.digit(-5001), 9);
        checks.due("digit(4999)", low.digit(4999), 9);
        for (ExactDigits y : new ExactDigits[] {new ExactDigits(), x, high, low, fullAndLess()}) {
            checks.due("digit(MAX)", y.digit(Integer.MAX_VALUE), 0);
            checks.due("digit(MIN)", y.digit(Integer.MIN_VALUE), 0);
        }
        ExactDigits cut = of(98765);
        cut.cut(-2);
        checks.due("digit(-2) where one was cut", cut.digit(-2), 0);
        checks.due("digit(-1) where one was cut", cut.digit(-1), 0);
    }

    private void promise11Told() {
        ExactDigits x = of("0.0125");
        checks.due("told(0)", x.told(0), 3);
        checks.due("told(1)", x.told(1), -1);
        checks.due("told(2)", x.told(2), 0);
        checks.due("told(2) of LESS", fullAndLess().told(2), 1);
        for (int what : new int[] {3, -1, WILD[0], WILD[1]}) {
            checks.refused("told(" + what + ")", x, () -> x.told(what));
        }
    }

    private void promise12Nearest() {
        nearest(new ExactDigits(), 0, 0);
        nearest(of(1), bits(1.0), bits(1f));
        nearest(of("0.1"), bits(0.1), bits(0.1f));
        nearest(of("3.14159265358979323846"), bits(Math.PI), bits((float) Math.PI));
        nearest(of(-1), bits(0x1p64), bits(0x1p64f));
        // of two the even one
        nearest(of(9007199254740993L), bits(0x1p53), bits(0x1p53f));
        nearest(of(9007199254740995L), bits(9007199254740996.0), bits(0x1p53f));
        nearest(of(16777217), bits(16777217.0), bits(16777216f));
        nearest(of(16777219), bits(16777219.0), bits(16777220f));
        // above the middle by a little, which a double would forget before the float is made
        ExactDigits x = of((1L << 60) + (1L << 36) + 1);
        x.shift(-60);
        nearest(x, bits(1.0) + (1L << 28), bits(1f) + 1);
        ExactDigits above = of("9007199254740993");
        above.put(400, 1);
        nearest(above, bits(9007199254740994.0), bits(0x1p53f));
    }

    private void nearest(ExactDigits x, long due, long smallDue) {
        String of = " of POINT " + x.told(1) + ", digest " + x.digest();
        long digest = x.digest();
        checks.due("nearest(false)" + of, x.nearest(false), due);
        checks.due("nearest(true)" + of, x.nearest(true), smallDue);
        checks.due("digest() after nearest" + of, x.digest(), digest);
    }

    private static ExactDigits moved(long v, int k) {
        ExactDigits x = of(v);
        x.move(k);
        return x;
    }

    private static ExactDigits shifted(long v, int k) {
        ExactDigits x = of(v);
        x.shift(k);
        return x;
    }

    private void promise12NearestGreatest() {
        nearest(moved(1, 308), bits(1e308), SMALL_INFINITE);
        nearest(moved(1, 309), INFINITE, SMALL_INFINITE);
        nearest(moved(1, 310), INFINITE, SMALL_INFINITE);
        nearest(moved(1, 5000), INFINITE, SMALL_INFINITE);
        nearest(moved(17976931348623157L, 292), INFINITE - 1, SMALL_INFINITE);
        nearest(moved(17976931348623159L, 292), INFINITE, SMALL_INFINITE);
        nearest(shifted(1, 1023), bits(0x1p1023), SMALL_INFINITE);
        nearest(shifted(1, 1024), INFINITE, SMALL_INFINITE);
        nearest(shifted(1, 1027), INFINITE, SMALL_INFINITE);
        nearest(shifted((1L << 54) - 1, 971), INFINITE, SMALL_INFINITE);
        nearest(moved(99999999999999999L, 292), INFINITE, SMALL_INFINITE);
        ExactDigits middle = shifted((1L << 54) - 1, 970);
        nearest(middle, INFINITE, SMALL_INFINITE);
        middle.cut(-1);
        nearest(middle, INFINITE - 1, SMALL_INFINITE);
        ExactDigits small = shifted((1L << 25) - 1, 103);
        checks.due("nearest(true) of the last middle", small.nearest(true), SMALL_INFINITE);
        small.cut(-1);
        checks.due("nearest(true) below the last middle", small.nearest(true), SMALL_INFINITE - 1);
    }

    private void promise12NearestLeast() {
        nearest(moved(1, -323), 2, 0);
        nearest(moved(247, -326), 0, 0);
        nearest(moved(248, -326), 1, 0);
        nearest(moved(1, -330), 0, 0);
        nearest(moved(1, -5000), 0, 0);
        nearest(shifted(1, -1074), 1, 0);
        nearest(shifted(1, -1075), 0, 0);
        nearest(shifted(3, -1076), 1, 0);
        nearest(shifted(3, -1075), 2, 0);
        nearest(shifted((1L << 53) - 1, -1075), bits(Double.MIN_NORMAL), 0);
        nearest(shifted(1, -1022), bits(Double.MIN_NORMAL), 0);
        checks.due("nearest(true) of 2^-149", shifted(1, -149).nearest(true), 1);
        checks.due("nearest(true) of 2^-150", shifted(1, -150).nearest(true), 0);
        checks.due("nearest(true) of 3 2^-151", shifted(3, -151).nearest(true), 1);
        checks.due("nearest(true) of 3 2^-150", shifted(3, -150).nearest(true), 2);
        checks.due("nearest(true) of the last middle below the normal",
            shifted((1L << 24) - 1, -150).nearest(true), bits(Float.MIN_NORMAL));
        ExactDigits above = of(1);
        above.put(400, 1);
        above.shift(-1075);
        nearest(above, 1, 0);
    }

    private void promise12NearestLess() {
        long middle = (1L << 54) + 2;
        nearest(of(middle), bits(0x1p54), bits(0x1p54f));
        ExactDigits x = lessOf(middle);
        x.move(17 - 1000);
        checks.state("LESS in the middle", x, "18014398509481986", 17, 1);
        nearest(x, bits(0x1p54) + 1, bits(0x1p54f));
        x.cut(2000);
        nearest(x, bits(0x1p54), bits(0x1p54f));
        ExactDigits small = lessOf(16777217);
        small.move(8 - 1000);
        checks.due("nearest(true) of LESS", small.nearest(true), bits(16777218f));
        small.round(2000);
        checks.due("nearest(true) of LESS no more", small.nearest(true), bits(16777216f));
        // not in the middle: what was lost changes nothing
        ExactDigits two = lessOf(2);
        two.move(-999);
        nearest(two, bits(2.0), bits(2f));
    }

    private void promise13Digest() {
        checks.due("digest() of 0", new ExactDigits().digest(), 217);
        checks.due("digest() of 12", of(12).digest(), 209562);
        checks.due("digest() of 120", of(120).digest(), 209563);
        checks.due("digest() of 0.0005", of("0.0005").digest(), 6879);
        checks.due("digest() of 102", of(102).digest(), ((((7L * 31 + 1) * 31) * 31 + 2) * 31) + 3);
        checks.due("digest() of 2^64 - 1", of(-1).digest(), 1724774085980613128L);
        ExactDigits full = fullAndLess();
        long sum = 7;
        for (int i = 0; i < 1200; i++) {
            sum = sum * 31 + full.digit(i - full.told(1));
        }
        checks.due("digest() of 1200 DIGITS", full.digest(), sum * 31 + full.told(1));
    }

    private void allCallsOfAnObject() {
        ExactDigits high = of(1);
        ExactDigits low = of(1);
        for (int i = 0; i < 505; i++) {
            high.shift(2200);
            low.shift(-2200);
        }
        // 2 to the 1111000 is 2.1.. times 10 to the 334444
        checks.due("told(1) after 505 shifts", high.told(1), 334445);
        checks.due("digit(-334445) after 505 shifts", high.digit(-334445), 2);
        checks.due("told(1) after 505 shifts down", low.told(1), -334444);
        nearest(high, INFINITE, SMALL_INFINITE);
        nearest(low, 0, 0);
        checks.due("cut(-2000) of the least", low.cut(-2000), 0);
        checks.state("cut(-2000) of the least", low, "", 0, 0);
    }
}
