import java.math.BigInteger;

/** Promises 5 to 9, by which a NUMBER is changed: each sentence with a test of its own. */
public final class ChangedTest {
    private static final int[] WILD = {Integer.MAX_VALUE, Integer.MIN_VALUE};

    private final Checks checks = new Checks();

    public static void main(String[] args) {
        ChangedTest test = new ChangedTest();
        test.ofPromise5();
        test.ofPromises6And7();
        test.ofPromise8();
        test.ofPromise9();
        test.checks.end();
    }

    private void ofPromise5() {
        checks.sentence("Promise 5: added d times 10 to the -1 - k: how many DIGITS", this::putOrdinary);
        checks.sentence("Promise 5: 0 is that of tenths, -1 of ones", this::putPlaces);
        checks.sentence("Promise 5: (zeros between what it has and the digit)", this::putZerosBetween);
        checks.sentence("Promise 5: to 0 at any", this::putToZero);
        checks.sentence("Promise 5: d 0: nothing is added", this::putNothing);
        checks.sentence("Promise 5: IllegalArgumentException if d is not 0 to 9", this::putNoDigit);
        checks.sentence("Promise 5: or k not -400 to 400", this::putNoPlace);
        checks.sentence("Promise 5: or a digit that is not 0 at that place", this::putAtDigit);
        checks.sentence("Promise 5: or a digit that is not 0 behind it", this::putBeforeDigit);
        checks.sentence("Promise 5: or it would be beyond the 1200th DIGIT", this::putBeyond);
        checks.sentence("Promise 5: or LESS", this::putToLess);
    }

    private void ofPromises6And7() {
        checks.sentence("Promise 6: Times 2 to the k, exactly: how many DIGITS", this::shiftOrdinary);
        checks.sentence("Promise 6: (k -2200 and 2200, exactly)", this::shiftFarthest);
        checks.sentence("Promise 6: (of 0: 0)", this::shiftZero);
        checks.sentence("Promise 6: (of LESS)", this::shiftLess);
        checks.sentence("Promise 6: IllegalArgumentException if k is not -2200 to 2200", this::shiftRefused);
        checks.sentence("Promise 7: Times 10 to the k: POINT", this::moveOrdinary);
        checks.sentence("Promise 7: (of 0: 0)", this::moveZero);
        checks.sentence("Promise 7: IllegalArgumentException if k is not -5000 to 5000", this::moveRefused);
        checks.sentence("Promise 7: or POINT would not be at most 10000", this::moveTooHigh);
        checks.sentence("Promise 7: or POINT would not be at least -10000", this::moveTooLow);
        checks.sentence("Promise 7: (where a shift has carried POINT beyond)", this::moveFromBeyond);
    }

    private void ofPromise8() {
        checks.sentence("Promise 8: Rounded to n digits behind the POINT", this::roundOrdinary);
        checks.sentence("Promise 8: (before it, if n is below 0)", this::roundBefore);
        checks.sentence("Promise 8: a half up", this::roundHalfUp);
        checks.sentence("Promise 8: (nines count up)", this::roundNines);
        checks.sentence("Promise 8: (before all DIGITS)", this::roundBeforeAll);
        checks.sentence("Promise 8: what LESS lost counts: above a half then", this::roundLessHalf);
        checks.sentence("Promise 8: behind all DIGITS they stay", this::roundBehindAll);
        checks.sentence("Promise 8: what LESS lost is 0 from now on", this::roundForgets);
        checks.sentence("Promise 8: not LESS then", this::roundNotLess);
        checks.sentence("Promise 8: (n -2000 and 2000)", this::roundFarthest);
        checks.sentence("Promise 8: IllegalArgumentException if n is not -2000 to 2000", this::roundRefused);
    }

    private void ofPromise9() {
        checks.sentence("Promise 9: Only n digits behind the POINT stay", this::cutOrdinary);
        checks.sentence("Promise 9: (as by round) before it, if n is below 0", this::cutBefore);
        checks.sentence("Promise 9: (as by round) before all DIGITS", this::cutBeforeAll);
        checks.sentence("Promise 9: (as by round) behind all DIGITS they stay", this::cutBehindAll);
        checks.sentence("Promise 9: what LESS lost is 0 from now on", this::cutForgets);
        checks.sentence("Promise 9: not LESS then", this::cutNotLess);
        checks.sentence("Promise 9: (n -2000 and 2000)", this::cutFarthest);
        checks.sentence("Promise 9: Thrown as by round", this::cutRefused);
    }

    private void put(ExactDigits x, int k, int d, String digits, int point) {
        checks.becomes("put(" + k + ", " + d + ")", x, () -> x.put(k, d), digits, point, 0);
    }

    private void putRefused(ExactDigits x, int k, int d) {
        checks.refused("put(" + k + ", " + d + ")", x, () -> x.put(k, d));
    }

    private void putOrdinary() {
        ExactDigits x = new ExactDigits();
        put(x, -2, 4, "4", 2);
        for (int d = 1; d <= 9; d++) {
            put(x, d - 2, d, "4123456789".substring(0, d + 1), 2);
        }
    }

    private void putPlaces() {
        put(Numbers.of(100), -1, 3, "103", 3);
        put(Numbers.of(100), -2, 4, "14", 3);
        put(Numbers.of(5), 0, 5, "55", 1);
        put(Numbers.of(5), 1, 5, "505", 1);
        put(Numbers.of("0.5"), 1, 5, "55", 0);
        put(Numbers.of("0.005"), 3, 5, "55", -2);
        put(new ExactDigits(), -1, 7, "7", 1);
        put(new ExactDigits(), 0, 7, "7", 0);
        put(new ExactDigits(), 1, 7, "7", -1);
    }

    private void putZerosBetween() {
        put(Numbers.of("5.5"), 3, 7, "55007", 1);
        put(Numbers.moved(1, 300), 98, 7, "1" + Numbers.zeros(398) + "7", 301);
        // where other digits stood before
        ExactDigits x = Numbers.of(98765);
        x.whole(1);
        put(x, 2, 6, "1006", 1);
        ExactDigits cut = Numbers.of(98765);
        cut.cut(-3);
        put(cut, 0, 1, "980001", 5);
        ExactDigits zero = Numbers.of(98765);
        zero.cut(-5);
        put(zero, 0, 1, "1", 0);
    }

    private void putToZero() {
        for (int k = -400; k <= 400; k++) {
            put(new ExactDigits(), k, 9, "9", -k);
        }
        // a 0 that is not new is as good
        ExactDigits x = Numbers.moved(7, 5000);
        x.whole(0);
        put(x, 400, 1, "1", -400);
        ExactDigits cut = Numbers.lessOf(2);
        cut.cut(-1000);
        put(cut, -400, 1, "1", 400);
    }

    private void putNothing() {
        put(new ExactDigits(), -400, 0, "", 0);
        put(new ExactDigits(), 0, 0, "", 0);
        put(new ExactDigits(), 400, 0, "", 0);
        put(Numbers.of("5.5"), 1, 0, "55", 1);
        put(Numbers.of("5.5"), 400, 0, "55", 1);
        put(Numbers.of(100), -1, 0, "1", 3);
        ExactDigits x = Numbers.of("5.5");
        x.put(3, 0);
        // the place is still free, and so is the one before it
        put(x, 3, 0, "55", 1);
        put(x, 2, 8, "5508", 1);
        put(Numbers.moved(1, 999), 199, 0, "1", 1000);
    }

    private void putNoDigit() {
        for (int d : new int[] {-1, 10, -9, 100, 256, WILD[0], WILD[1]}) {
            putRefused(Numbers.of("5.5"), 1, d);
            putRefused(new ExactDigits(), 0, d);
        }
        put(Numbers.of("5.5"), 1, 9, "559", 1);
    }

    private void putNoPlace() {
        for (int k : new int[] {401, -401, 1000, -1000, WILD[0], WILD[1]}) {
            putRefused(new ExactDigits(), k, 1);
            putRefused(new ExactDigits(), k, 0);
            putRefused(Numbers.of("5.5"), k, 1);
            putRefused(Numbers.moved(5, -900), k, 1);
        }
        put(Numbers.of(5), 400, 1, "5" + Numbers.zeros(400) + "1", 1);
        put(Numbers.moved(5, 900), -400, 1, "5" + Numbers.zeros(500) + "1", 901);
        // POINT is so far off that no place within reach of it is allowed
        putRefused(Numbers.moved(5, -5000), 5000, 1);
        put(Numbers.moved(5, 1500), -400, 1, "5" + Numbers.zeros(1100) + "1", 1501);
    }

    private void putAtDigit() {
        putRefused(Numbers.of(5), -1, 1);
        putRefused(Numbers.of(5), -1, 0);
        putRefused(Numbers.of("5.5"), 0, 1);
        putRefused(Numbers.of("5.0007"), 3, 1);
        putRefused(Numbers.of("5.0007"), 3, 0);
        putRefused(Numbers.moved(5, 399), -400, 1);
        putRefused(Numbers.moved(5, -401), 400, 1);
        put(Numbers.of("5.0007"), 4, 1, "500071", 1);
        put(Numbers.moved(5, -400), 400, 1, "51", -399);
    }

    private void putBeforeDigit() {
        putRefused(Numbers.of("5.0007"), 2, 1);
        putRefused(Numbers.of("5.0007"), 2, 0);
        putRefused(Numbers.of("5.0007"), -1, 1);
        putRefused(Numbers.of("5.0007"), -2, 1);
        putRefused(Numbers.of("5.0007"), -400, 1);
        putRefused(Numbers.of("5.0007"), -400, 0);
        putRefused(Numbers.of(105), -2, 1);
        putRefused(Numbers.moved(1, -5000), 400, 1);
        putRefused(Numbers.moved(1, -5000), -400, 0);
    }

    private void putBeyond() {
        put(Numbers.moved(1, 999), 199, 3, "1" + Numbers.zeros(1198) + "3", 1000);
        putRefused(Numbers.moved(1, 999), 200, 3);
        putRefused(Numbers.moved(1, 999), 200, 0);
        putRefused(Numbers.moved(1, 1000), 199, 3);
        putRefused(Numbers.moved(1, 1000), 199, 0);
        put(Numbers.moved(1, 1000), 198, 3, "1" + Numbers.zeros(1198) + "3", 1001);
        put(Numbers.moved(1, 799), 399, 3, "1" + Numbers.zeros(1198) + "3", 800);
        putRefused(Numbers.moved(1, 799), 400, 3);
        putRefused(Numbers.moved(1, 5000), -400, 3);
        ExactDigits full = Numbers.withTail(1, "3");
        putRefused(full, 200, 1);
        putRefused(full, 400, 0);
        ExactDigits filled = Numbers.shifted(1, -1716);
        filled.move(516);
        putRefused(filled, 400, 1);
    }

    private void putToLess() {
        putRefused(Numbers.lessOf(1), 199, 0);
        putRefused(Numbers.lessOf(1), 199, 1);
        putRefused(Numbers.lessOf(1), 0, 1);
        ExactDigits low = Numbers.lessOf(1);
        low.move(-1000);
        putRefused(low, 5, 1);
        putRefused(Numbers.fullAndLess(), 400, 1);
        ExactDigits x = Numbers.lessOf(1);
        x.cut(2000);
        put(x, 0, 1, "1" + Numbers.zeros(999) + "1", 1000);
        ExactDigits y = Numbers.lessOf(1);
        y.round(2000);
        put(y, 0, 1, "1" + Numbers.zeros(999) + "1", 1000);
    }

    private void shift(ExactDigits x, int k, String digits, int point, int less) {
        checks.becomes("shift(" + k + ")", x, () -> x.shift(k), digits, point, less);
    }

    private void shiftOrdinary() {
        ExactDigits x = Numbers.of(3);
        shift(x, 0, "3", 1, 0);
        shift(x, 10, "3072", 4, 0);
        shift(x, -12, "75", 0, 0);
        shift(x, -1, "375", 0, 0);
        shift(x, 3, "3", 1, 0);
        shift(Numbers.of(5), 1, "1", 2, 0);
        shift(Numbers.of("0.05"), 1, "1", 0, 0);
        shift(Numbers.of(1), -3, "125", 0, 0);
        for (int k = 0; k <= 200; k++) {
            shift(Numbers.of(1), k, Numbers.digitsOfTwoTo(k), Numbers.digitsOfTwoTo(k).length(), 0);
            shift(Numbers.of(1), -k, Numbers.digitsOfTwoTo(-k), Numbers.digitsOfTwoTo(-k).length() - k, 0);
        }
    }

    private void shiftFarthest() {
        shift(Numbers.of(1), 2200, Numbers.digitsOfTwoTo(2200), 663, 0);
        shift(Numbers.of(1), 2199, Numbers.digitsOfTwoTo(2199), 662, 0);
        shift(Numbers.of(1), -2200, Numbers.withoutZerosBehind(
            Numbers.digitsOfTwoTo(-2200).substring(0, 1200)), -662, 1);
        ExactDigits x = Numbers.of(75);
        x.shift(2200);
        shift(x, -2200, "75", 2, 0);
        ExactDigits y = Numbers.shifted(1, 2200);
        checks.due("shift(-2200) of 2^2200", y.shift(-2200), 1);
        checks.state("shift(-2200) of 2^2200", y, "1", 1, 0);
    }

    private void shiftZero() {
        for (int k : new int[] {0, 1, -1, 2200, -2200}) {
            shift(new ExactDigits(), k, "", 0, 0);
        }
    }

    /** The DIGITS that were kept are multiplied, and it stays LESS. */
    private void shiftLess() {
        shift(Numbers.lessOf(1), 1, "2", 1000, 1);
        shift(Numbers.lessOf(1), -1, "5", 999, 1);
        shift(Numbers.lessOf(1), 0, "1", 1000, 1);
        shift(Numbers.lessOf(3), 2200, Numbers.withoutZerosBehind(
            BigInteger.valueOf(3).shiftLeft(2200).toString()), 1662, 1);
    }

    private void shiftRefused() {
        for (int k : new int[] {2201, -2201, 5000, WILD[0], WILD[1]}) {
            for (ExactDigits x : Numbers.allKinds()) {
                checks.refused("shift(" + k + ")", x, () -> x.shift(k));
            }
        }
    }

    private void move(ExactDigits x, int k, String digits, int point, int less) {
        checks.due("move(" + k + ")", x.move(k), point);
        checks.state("move(" + k + ")", x, digits, point, less);
    }

    private void moveRefused(ExactDigits x, int k) {
        checks.refused("move(" + k + ")", x, () -> x.move(k));
    }

    private void moveOrdinary() {
        ExactDigits x = Numbers.of(12);
        move(x, 3, "12", 5, 0);
        move(x, -7, "12", -2, 0);
        move(x, 0, "12", -2, 0);
        move(x, 5000, "12", 4998, 0);
        move(x, -5000, "12", -2, 0);
        move(Numbers.lessOf(1), -4, "1", 996, 1);
        move(Numbers.withTail(1, "3"), 1, "1" + Numbers.zeros(1198) + "3", 1001, 0);
    }

    private void moveZero() {
        for (int k : new int[] {0, 1, -1, 5000, -5000}) {
            move(new ExactDigits(), k, "", 0, 0);
            ExactDigits x = Numbers.of(4);
            x.move(5000);
            x.move(4999);
            x.whole(0);
            move(x, k, "", 0, 0);
        }
        ExactDigits often = new ExactDigits();
        often.move(5000);
        often.move(5000);
        move(often, 5000, "", 0, 0);
        checks.due("put(0, 1) after moves of 0", often.put(0, 1), 1);
        checks.state("put(0, 1) after moves of 0", often, "1", 0, 0);
    }

    private void moveRefused() {
        for (int k : new int[] {5001, -5001, 10000, -10000, WILD[0], WILD[1]}) {
            for (ExactDigits x : Numbers.allKinds()) {
                moveRefused(x, k);
            }
        }
        moveRefused(Numbers.moved(1, 5000), -5001);
        moveRefused(Numbers.moved(1, -5000), 5001);
    }

    private void moveTooHigh() {
        ExactDigits x = Numbers.moved(1, 5000);
        moveRefused(x, 5000);
        move(x, 4999, "1", 10000, 0);
        moveRefused(x, 1);
        moveRefused(x, 5000);
        move(x, 0, "1", 10000, 0);
        move(x, -1, "1", 9999, 0);
        moveRefused(x, 2);
        move(x, 1, "1", 10000, 0);
    }

    private void moveTooLow() {
        ExactDigits x = Numbers.moved(1, -5000);
        moveRefused(Numbers.moved(1, -5000), -5001);
        move(x, -5000, "1", -9999, 0);
        moveRefused(x, -2);
        move(x, -1, "1", -10000, 0);
        moveRefused(x, -1);
        moveRefused(x, -5000);
        move(x, 0, "1", -10000, 0);
        move(x, 1, "1", -9999, 0);
    }

    /** Only where POINT would come to counts, not where it is. */
    private void moveFromBeyond() {
        ExactDigits high = Numbers.moved(1, 5000);
        high.move(4999);
        high.shift(2200);
        checks.due("told(1) after shift(2200)", high.told(1), 10662);
        moveRefused(high, 0);
        moveRefused(high, -661);
        checks.due("move(-662)", high.move(-662), 10000);
        ExactDigits low = Numbers.moved(1, -5000);
        low.move(-5000);
        low.shift(-2200);
        checks.due("told(1) after shift(-2200)", low.told(1), -10662);
        moveRefused(low, 0);
        moveRefused(low, 661);
        checks.due("move(662)", low.move(662), -10000);
    }

    private void round(ExactDigits x, int n, String digits, int point) {
        checks.becomes("round(" + n + ") to " + digits, x, () -> x.round(n), digits, point, 0);
    }

    private void round(String text, int n, String digits, int point) {
        round(Numbers.of(text), n, digits, point);
    }

    private void roundOrdinary() {
        round("3.14159", 4, "31416", 1);
        round("3.14159", 3, "3142", 1);
        round("3.14159", 2, "314", 1);
        round("3.14159", 1, "31", 1);
        round("3.14159", 0, "3", 1);
        round("0.00678", 4, "68", -2);
        round("0.00678", 3, "7", -2);
        round("0.00678", 2, "1", -1);
        round("20.04", 1, "2", 2);
    }

    private void roundBefore() {
        round("123456", -1, "12346", 6);
        round("123456", -2, "1235", 6);
        round("123456", -3, "123", 6);
        round("123456.7", -5, "1", 6);
        round("1094", -1, "109", 4);
        round("1004", -1, "1", 4);
        round("1004", -2, "1", 4);
    }

    private void roundHalfUp() {
        round("0.125", 2, "13", 0);
        round("0.375", 2, "38", 0);
        round("0.5", 0, "1", 1);
        round("1.5", 0, "2", 1);
        round("2.5", 0, "3", 1);
        round("25", -1, "3", 2);
        round("35", -1, "4", 2);
        round("50", -2, "1", 3);
        round("0.05", 1, "1", 0);
        round("0.4999", 0, "", 0);
        round("2.4999", 0, "2", 1);
        round("2.5001", 0, "3", 1);
        round("123499", -3, "123", 6);
        round("123500", -3, "124", 6);
        round(Numbers.shifted(1, -1), 0, "1", 1);
    }

    private void roundNines() {
        round("99", -1, "1", 3);
        round("95", -2, "1", 3);
        round("1999", -1, "2", 4);
        round("9.996", 2, "1", 2);
        round("0.9996", 3, "1", 1);
        round("0.00996", 4, "1", -1);
        round("89.95", 1, "9", 2);
        round("9.94", 1, "99", 1);
        round("9".repeat(400), -1, "1", 401);
        round("1" + "9".repeat(399), -2, "2", 400);
        round(Numbers.withTail(1, "7"), 199, "1" + Numbers.zeros(1197) + "1", 1000);
        round(Numbers.withTail(1, "99"), 199, "1" + Numbers.zeros(1196) + "1", 1000);
    }

    private void roundBeforeAll() {
        round("49", -2, "", 0);
        round("99", -3, "", 0);
        round("0.05", 0, "", 0);
        round("0.09", 0, "", 0);
        round("0.00099", 2, "", 0);
        round(Numbers.moved(9, -5000), 2000, "", 0);
        round(Numbers.shifted(1, -10), 2, "", 0);
    }

    private void roundLessHalf() {
        round(Numbers.lessOf(15), -999, "2", 1000);
        round(Numbers.lessOf(25), -999, "3", 1000);
        round(Numbers.lessOf(455), -998, "46", 1000);
        round(Numbers.lessOf(1499), -999, "1", 1000);
        round(Numbers.lessOf(14), -999, "1", 1000);
        ExactDigits half = Numbers.lessOf(1);
        half.shift(-1);
        round(half, -999, "1", 1000);
        ExactDigits below = Numbers.lessOf(4);
        round(below, -1000, "", 0);
    }

    private void roundBehindAll() {
        round("12", 0, "12", 2);
        round("12", 1, "12", 2);
        round("0.124", 3, "124", 0);
        round("0.124", 4, "124", 0);
        round("0.009", 3, "9", -2);
        round("1200", -2, "12", 4);
        round("1500", -1, "15", 4);
        round(Numbers.withTail(1, "7"), 200, "1" + Numbers.zeros(1198) + "7", 1000);
        round(Numbers.lessOf(15), -998, "15", 1000);
        round(Numbers.lessOf(15), 2000, "15", 1000);
        // what is lost begins with a 5, or is more than a half of the last that is kept
        ExactDigits five = Numbers.withTail(2, "3");
        five.shift(-1);
        round(five, 200, "1" + Numbers.zeros(1198) + "1", 1000);
        ExactDigits eight = Numbers.withTail(9, "9");
        eight.shift(1);
        round(eight, 199, "18" + Numbers.zeros(1197) + "1", 1001);
    }

    private void roundForgets() {
        ExactDigits x = Numbers.lessOf(16777217);
        x.move(8 - 1000);
        checks.due("nearest(true) of LESS", x.nearest(true), Numbers.bits(16777218f));
        round(x, 0, "16777217", 8);
        checks.due("nearest(true) of LESS no more", x.nearest(true), Numbers.bits(16777216f));
        ExactDigits y = Numbers.lessOf(15);
        round(y, 2000, "15", 1000);
        checks.becomes("shift(1) behind round", y, () -> y.shift(1), "3", 1000, 0);
        checks.becomes("put(199, 4) behind round", y, () -> y.put(199, 4), "3" + Numbers.zeros(1198) + "4", 1000, 0);
    }

    private void roundNotLess() {
        int[] places = {-2000, -1001, -1000, -999, -998, 0, 199, 200, 201, 2000};
        for (int n : places) {
            ExactDigits x = Numbers.lessOf(15);
            checks.due("told(2) before round(" + n + ")", x.told(2), 1);
            x.round(n);
            checks.due("told(2) after round(" + n + ")", x.told(2), 0);
        }
    }

    private void roundFarthest() {
        round(new ExactDigits(), 2000, "", 0);
        round(new ExactDigits(), -2000, "", 0);
        round("12", 2000, "12", 2);
        round("12", -2000, "", 0);
        round(Numbers.moved(5, 1999), -2000, "1", 2001);
        round(Numbers.moved(4, 1999), -2000, "", 0);
        round(Numbers.moved(15, 1999), -2000, "2", 2001);
        round(Numbers.moved(5, -2001), 2000, "1", -1999);
        round(Numbers.moved(4, -2001), 2000, "", 0);
        round(Numbers.moved(15, -2001), 2000, "2", -1999);
        round(Numbers.moved(7, 5000), -2000, "7", 5001);
    }

    private void roundRefused() {
        for (int n : new int[] {2001, -2001, 5000, -5000, WILD[0], WILD[1]}) {
            for (ExactDigits x : Numbers.allKinds()) {
                checks.refused("round(" + n + ")", x, () -> x.round(n));
            }
        }
    }

    private void cut(ExactDigits x, int n, String digits, int point) {
        checks.becomes("cut(" + n + ") to " + digits, x, () -> x.cut(n), digits, point, 0);
    }

    private void cut(String text, int n, String digits, int point) {
        cut(Numbers.of(text), n, digits, point);
    }

    private void cutOrdinary() {
        cut("3.14159", 4, "31415", 1);
        cut("3.14159", 3, "3141", 1);
        cut("3.14159", 0, "3", 1);
        cut("0.999", 2, "99", 0);
        cut("0.00678", 4, "67", -2);
        cut("1.0099", 2, "1", 1);
        cut("1.5", 0, "1", 1);
    }

    private void cutBefore() {
        cut("123999", -1, "12399", 6);
        cut("123999", -3, "123", 6);
        cut("103999", -4, "1", 6);
        cut("99.9", -1, "9", 2);
        cut("95", -1, "9", 2);
    }

    private void cutBeforeAll() {
        cut("99", -2, "", 0);
        cut("99", -3, "", 0);
        cut("0.999", 0, "", 0);
        cut("0.0999", 1, "", 0);
        cut("0.0999", 0, "", 0);
        cut(Numbers.lessOf(19), -1000, "", 0);
        cut(Numbers.fullAndLess(), 600, "", 0);
    }

    private void cutBehindAll() {
        cut("12", 0, "12", 2);
        cut("12", 1, "12", 2);
        cut("0.124", 3, "124", 0);
        cut("1200", -2, "12", 4);
        cut(Numbers.lessOf(19), -998, "19", 1000);
        cut(Numbers.lessOf(19), 2000, "19", 1000);
        ExactDigits full = Numbers.withTail(2, "3");
        full.shift(-1);
        cut(full, 200, "1" + Numbers.zeros(1198) + "1", 1000);
        cut(full, 199, "1", 1000);
    }

    private void cutForgets() {
        ExactDigits x = Numbers.lessOf(16777217);
        x.move(8 - 1000);
        checks.due("nearest(true) of LESS", x.nearest(true), Numbers.bits(16777218f));
        cut(x, 0, "16777217", 8);
        checks.due("nearest(true) of LESS no more", x.nearest(true), Numbers.bits(16777216f));
        ExactDigits y = Numbers.lessOf(15);
        cut(y, 2000, "15", 1000);
        checks.becomes("put(199, 4) behind cut", y, () -> y.put(199, 4), "15" + Numbers.zeros(1197) + "4", 1000, 0);
    }

    private void cutNotLess() {
        int[] places = {-2000, -1001, -1000, -999, -998, 0, 199, 200, 201, 2000};
        for (int n : places) {
            ExactDigits x = Numbers.lessOf(15);
            checks.due("told(2) before cut(" + n + ")", x.told(2), 1);
            x.cut(n);
            checks.due("told(2) after cut(" + n + ")", x.told(2), 0);
        }
    }

    private void cutFarthest() {
        cut(new ExactDigits(), 2000, "", 0);
        cut(new ExactDigits(), -2000, "", 0);
        cut("12", 2000, "12", 2);
        cut("12", -2000, "", 0);
        cut(Numbers.moved(9, 1999), -2000, "", 0);
        cut(Numbers.moved(19, 1999), -2000, "1", 2001);
        cut(Numbers.moved(9, -2001), 2000, "", 0);
        cut(Numbers.moved(19, -2001), 2000, "1", -1999);
        cut(Numbers.moved(7, 5000), -2000, "7", 5001);
    }

    private void cutRefused() {
        for (int n : new int[] {2001, -2001, 5000, -5000, WILD[0], WILD[1]}) {
            for (ExactDigits x : Numbers.allKinds()) {
                checks.refused("cut(" + n + ")", x, () -> x.cut(n));
            }
        }
    }
}
