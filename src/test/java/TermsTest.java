import java.util.function.Consumer;

/** The section 'Terms' of the document, each sentence with a test of its own. */
public final class TermsTest {
    private final Checks checks = new Checks();

    public static void main(String[] args) {
        TermsTest test = new TermsTest();
        Checks checks = test.checks;
        checks.sentence("Terms: A NUMBER is not below 0", test::notBelowZero);
        checks.sentence("Terms: 0.ddd.. times 10 to the POINT", test::timesTenToThePoint);
        checks.sentence("Terms: the first of its DIGITS not 0", test::firstIsNotZero);
        checks.sentence("Terms: the last of its DIGITS not 0", test::lastIsNotZero);
        checks.sentence("Terms: 0 has none, and POINT 0", test::zeroHasNone);
        checks.sentence("Terms: At most 1200 DIGITS are kept", test::atMostKept);
        checks.sentence("Terms: what would be behind them goes", test::whatIsBehindGoes);
        checks.sentence("Terms: a NUMBER that lost some is LESS", test::lostSomeIsLess);
        checks.sentence("Terms: (a NUMBER that lost none is not LESS)", test::lostNoneIsNotLess);
        checks.sentence("Terms: LESS, till it is given anew", test::lessTillGivenAnew);
        checks.sentence("Terms: (a NUMBER that is given anew is not LESS)", test::givenAnewIsNotLess);
        checks.sentence("What it is: at most 512 calls after it has been made", test::allCallsOfAnObject);
        checks.end();
    }

    private void notBelowZero() {
        ExactDigits x = new ExactDigits();
        checks.becomes("whole(-2^63)", x, () -> x.whole(Long.MIN_VALUE), "9223372036854775808", 19, 0);
        checks.due("nearest(false) of whole(-2^63)", x.nearest(false), Numbers.bits(0x1p63));
        long bits = Numbers.bits(-2.5);
        checks.becomes("real of -2.5", x, () -> x.real(bits, false), "25", 1, 0);
        checks.due("nearest(false) of -2.5", x.nearest(false), Numbers.bits(2.5));
        long small = Numbers.bits(-0.3f);
        checks.becomes("shortest of -0.3f", x, () -> x.shortest(small, true), "3", 0, 0);
        checks.due("nearest(true) of -0.3f", x.nearest(true), Numbers.bits(0.3f));
    }

    private void timesTenToThePoint() {
        checks.state("whole(7)", Numbers.of(7), "7", 1, 0);
        checks.state("0.7", Numbers.of("0.7"), "7", 0, 0);
        checks.state("0.07", Numbers.of("0.07"), "7", -1, 0);
        checks.state("70.07", Numbers.of("70.07"), "7007", 2, 0);
        checks.state("7 move(-5000)", Numbers.moved(7, -5000), "7", -4999, 0);
    }

    private void firstIsNotZero() {
        checks.state("shift(-1) of 1", Numbers.shifted(1, -1), "5", 0, 0);
        checks.state("shift(-4) of 1", Numbers.shifted(1, -4), "625", -1, 0);
        checks.state("shift(1) of 9", Numbers.shifted(9, 1), "18", 2, 0);
        checks.state("000.00340 put", Numbers.of("000.00340"), "34", -2, 0);
        ExactDigits x = Numbers.of("0.95");
        checks.becomes("round(1) of 0.95", x, () -> x.round(1), "1", 1, 0);
        ExactDigits high = Numbers.of("999.9");
        checks.becomes("round(0) of 999.9", high, () -> high.round(0), "1", 4, 0);
    }

    private void lastIsNotZero() {
        checks.state("whole(102000)", Numbers.of(102000), "102", 6, 0);
        checks.state("whole(10^18)", Numbers.of(1000000000000000000L), "1", 19, 0);
        checks.state("shift(3) of 125", Numbers.shifted(125, 3), "1", 4, 0);
        checks.state("120.50 put", Numbers.of("120.50"), "1205", 3, 0);
        ExactDigits x = Numbers.of("10.0907");
        checks.becomes("cut(3) of 10.0907", x, () -> x.cut(3), "1009", 2, 0);
        checks.becomes("cut(1) of 10.09", x, () -> x.cut(1), "1", 2, 0);
        ExactDigits y = Numbers.of("1.2998");
        checks.becomes("round(3) of 1.2998", y, () -> y.round(3), "13", 1, 0);
        ExactDigits z = Numbers.of("20.004");
        checks.becomes("round(2) of 20.004", z, () -> z.round(2), "2", 2, 0);
        checks.becomes("real of 10^22", z, () -> z.real(Numbers.bits(1e22), false), "1", 23, 0);
        checks.becomes("shortest of 10^23", z, () -> z.shortest(Numbers.bits(1e23), false), "1", 24, 0);
    }

    private void zeroHasNone() {
        isZero("new", x -> { });
        isZero("whole(0)", x -> x.whole(0));
        isZero("real(0)", x -> x.real(0, false));
        isZero("real of -0.0", x -> x.real(Numbers.bits(-0.0), false));
        isZero("real of -0f", x -> x.real(Numbers.bits(-0f), true));
        isZero("shortest of 0.0", x -> x.shortest(0, false));
        isZero("shortest of -0.0", x -> x.shortest(Numbers.bits(-0.0), false));
        isZero("shortest of -0f", x -> x.shortest(Numbers.bits(-0f), true));
        isZero("put(5, 0)", x -> x.put(5, 0));
        isZero("shift(2200)", x -> x.shift(2200));
        isZero("shift(-2200)", x -> x.shift(-2200));
        isZero("move(5000)", x -> x.move(5000));
        isZero("move(-5000)", x -> x.move(-5000));
        isZero("round(-2000)", x -> x.round(-2000));
        isZero("round(2000)", x -> x.round(2000));
        isZero("cut(-2000)", x -> x.cut(-2000));
        isZero("cut(2000)", x -> x.cut(2000));
        for (String text : new String[] {"4", "49.9", "0.4", "0.00049"}) {
            ExactDigits x = Numbers.of(text);
            checks.becomes("round to 0 of " + text, x, () -> x.round(-x.told(1)), "", 0, 0);
            ExactDigits y = Numbers.of(text);
            checks.becomes("cut to 0 of " + text, y, () -> y.cut(-y.told(1)), "", 0, 0);
        }
        ExactDigits less = Numbers.fullAndLess();
        checks.becomes("round(0) of 2^-2200", less, () -> less.round(0), "", 0, 0);
    }

    private void isZero(String call, Consumer<ExactDigits> made) {
        ExactDigits x = new ExactDigits();
        made.accept(x);
        checks.state(call + " to 0", x, "", 0, 0);
    }

    private void atMostKept() {
        ExactDigits x = Numbers.of(1);
        checks.becomes("shift(-1716) of 1", x, () -> x.shift(-1716), Numbers.digitsOfTwoTo(-1716), -516, 0);
        ExactDigits y = Numbers.of(1);
        String more = Numbers.digitsOfTwoTo(-1717);
        checks.due("how many digits 2^-1717 has", more.length(), 1201);
        checks.becomes("shift(-1717) of 1", y, () -> y.shift(-1717), more.substring(0, 1200), -516, 1);
        ExactDigits high = Numbers.shifted(1, 2200);
        checks.becomes("shift(1783) of 2^2200", high, () -> high.shift(1783), Numbers.digitsOfTwoTo(3983), 1200, 0);
        ExactDigits beyond = Numbers.shifted(1, 2200);
        String first = Numbers.digitsOfTwoTo(4400).substring(0, 1200);
        checks.becomes("shift(2200) of 2^2200", beyond, () -> beyond.shift(2200), first, 1325, 1);
    }

    /** It goes without a trace in the DIGITS that stay: a 5 or more behind them does not count up. */
    private void whatIsBehindGoes() {
        ExactDigits x = Numbers.withTail(2, "3");
        checks.becomes("shift(-1) of 20..03", x, () -> x.shift(-1), "1" + Numbers.zeros(1198) + "1", 1000, 1);
        ExactDigits nine = Numbers.withTail(9, "9");
        checks.becomes("shift(1) of 90..09", nine, () -> nine.shift(1), "18" + Numbers.zeros(1197) + "1", 1001, 1);
        ExactDigits far = Numbers.of(1);
        String kept = Numbers.withoutZerosBehind(Numbers.digitsOfTwoTo(-2200).substring(0, 1200));
        checks.becomes("shift(-2200) of 1", far, () -> far.shift(-2200), kept, -662, 1);
        ExactDigits zeros = Numbers.withTail(2, "1");
        checks.becomes("shift(-20) of 20..01", zeros, () -> zeros.shift(-20), "19073486328125", 994, 1);
    }

    private void lostSomeIsLess() {
        ExactDigits one = Numbers.withTail(9, "3");
        checks.becomes("shift(1) of 90..03", one, () -> one.shift(1), "18", 1001, 1);
        ExactDigits half = Numbers.withTail(2, "1");
        checks.becomes("shift(-1) of 20..01", half, () -> half.shift(-1), "1", 1000, 1);
        // the first that is lost is a 0, the second is not
        ExactDigits second = Numbers.withTail(9, "19");
        checks.becomes("shift(4) of 90..019", second, () -> second.shift(4),
            "144" + Numbers.zeros(1196) + "3", 1002, 1);
        // the last that is lost is a 0, the first is not
        ExactDigits first = Numbers.withTail(9, "15");
        checks.becomes("shift(4) of 90..015", first, () -> first.shift(4),
            "144" + Numbers.zeros(1196) + "2", 1002, 1);
    }

    private void lostNoneIsNotLess() {
        ExactDigits x = Numbers.withTail(9, "5");
        checks.becomes("shift(1) of 90..05", x, () -> x.shift(1), "18" + Numbers.zeros(1197) + "1", 1001, 0);
        ExactDigits two = Numbers.withTail(9, "25");
        checks.becomes("shift(4) of 90..025", two, () -> two.shift(4),
            "144" + Numbers.zeros(1196) + "4", 1002, 0);
        ExactDigits full = Numbers.withTail(1, "7");
        checks.becomes("shift(-1) of 10..07", full, () -> full.shift(-1),
            "5" + Numbers.zeros(1197) + "35", 999, 0);
        checks.becomes("shift(1) of 50..035", full, () -> full.shift(1), "1" + Numbers.zeros(1198) + "7", 1000, 0);
    }

    private void lessTillGivenAnew() {
        ExactDigits x = Numbers.lessOf(15);
        checks.state("what is LESS", x, "15", 1000, 1);
        checks.becomes("shift(0) of LESS", x, () -> x.shift(0), "15", 1000, 1);
        checks.becomes("shift(1) of LESS", x, () -> x.shift(1), "3", 1000, 1);
        checks.becomes("shift(-2) of LESS", x, () -> x.shift(-2), "75", 999, 1);
        checks.due("move(-990) of LESS", x.move(-990), 9);
        checks.state("move(-990) of LESS", x, "75", 9, 1);
        x.nearest(false);
        x.nearest(true);
        checks.refused("put(0, 1) of LESS", x, () -> x.put(0, 1));
        checks.refused("round(2001) of LESS", x, () -> x.round(2001));
        checks.dueThrow("real of NaN", x, ArithmeticException.class, () -> x.real(-1, false));
        checks.dueThrow("shortest of NaN", x, ArithmeticException.class, () -> x.shortest(-1, true));
        checks.state("all that does not give it anew", x, "75", 9, 1);
        // a shift that loses none this time does not make good what was lost before
        ExactDigits full = Numbers.shifted(1, -1717);
        full.shift(1000);
        checks.due("told(2) after shift(1000) of LESS", full.told(2), 1);
    }

    private void givenAnewIsNotLess() {
        ExactDigits x = Numbers.fullAndLess();
        checks.becomes("whole(12) of LESS", x, () -> x.whole(12), "12", 2, 0);
        ExactDigits y = Numbers.fullAndLess();
        checks.becomes("real of LESS", y, () -> y.real(Numbers.bits(0.375), false), "375", 0, 0);
        ExactDigits z = Numbers.fullAndLess();
        checks.becomes("shortest of LESS", z, () -> z.shortest(Numbers.bits(0.1), false), "1", 0, 0);
        ExactDigits zero = Numbers.fullAndLess();
        checks.becomes("whole(0) of LESS", zero, () -> zero.whole(0), "", 0, 0);
    }

    /** 2 to the 1100000 is 9.8.. times 10 to the 331132. */
    private void allCallsOfAnObject() {
        ExactDigits high = Numbers.of(1);
        ExactDigits low = Numbers.of(1);
        for (int i = 0; i < 500; i++) {
            high.shift(2200);
            low.shift(-2200);
        }
        checks.due("told(1) after 500 shifts", high.told(1), 331133);
        checks.due("digit(-331133) after 500 shifts", high.digit(-331133), 9);
        checks.due("nearest(false) after 500 shifts", high.nearest(false), Numbers.INFINITE);
        checks.due("nearest(true) after 500 shifts", high.nearest(true), Numbers.SMALL_INFINITE);
        checks.due("cut(-2000) after 500 shifts", high.cut(-2000), 1200);
        checks.due("told(1) after 500 shifts down", low.told(1), -331132);
        checks.due("nearest(false) after 500 shifts down", low.nearest(false), 0);
        checks.due("nearest(true) after 500 shifts down", low.nearest(true), 0);
        checks.due("round(2000) after 500 shifts down", low.round(2000), 0);
        checks.due("told(1) after round(2000)", low.told(1), 0);
        ExactDigits x = new ExactDigits();
        for (int i = 0; i < 511; i++) {
            x.whole(i);
        }
        checks.due("digest(), the 512th call", x.digest(), ((7 * 31 + 5) * 31 + 1) * 31 + 3);
    }
}
