import java.math.BigDecimal;
import java.math.BigInteger;
import java.math.MathContext;
import java.math.RoundingMode;

/** The document's promises once more, by the library's big numbers and by nothing of the program. */
final class Model {
    static final BigDecimal TWO = BigDecimal.valueOf(2);
    static final MathContext KEPT = new MathContext(1200, RoundingMode.DOWN);

    BigDecimal number = BigDecimal.ZERO;
    boolean less = false;

    String digits() {
        return number.signum() == 0 ? "" : number.unscaledValue().toString();
    }

    int point() {
        return number.signum() == 0 ? 0 : number.precision() - number.scale();
    }

    int count() {
        return digits().length();
    }

    private int become(BigDecimal exact, boolean lessBefore) {
        BigDecimal kept = exact.round(KEPT);
        less = lessBefore || kept.compareTo(exact) != 0;
        number = kept.stripTrailingZeros();
        return count();
    }

    int whole(long v) {
        return become(new BigDecimal(new BigInteger(Long.toUnsignedString(v))), false);
    }

    static boolean isFinite(long size, boolean small) {
        return size < (small ? 0x7F800000L : 0x7FF0000000000000L);
    }

    static long size(long bits, boolean small) {
        return small ? bits & 0x7FFFFFFFL : bits & Long.MAX_VALUE;
    }

    /** The infinite's value here is the power of two that would come behind the greatest. */
    static BigDecimal value(long size, boolean small) {
        if (!isFinite(size, small)) {
            return TWO.pow(small ? 128 : 1024);
        }
        return small
            ? new BigDecimal(Float.intBitsToFloat((int) size))
            : new BigDecimal(Double.longBitsToDouble(size));
    }

    static BigDecimal middle(long size, boolean small) {
        return value(size, small).add(value(size + 1, small)).divide(TWO);
    }

    int real(long bits, boolean small) {
        long size = size(bits, small);
        if (!isFinite(size, small)) {
            throw new ArithmeticException();
        }
        return become(value(size, small), false);
    }

    int shortest(long bits, boolean small) {
        long size = size(bits, small);
        if (!isFinite(size, small)) {
            throw new ArithmeticException();
        }
        return become(size == 0 ? BigDecimal.ZERO : shortestOf(size, small), false);
    }

    private static BigDecimal shortestOf(long size, boolean small) {
        BigDecimal exact = value(size, small);
        BigDecimal low = middle(size - 1, small);
        BigDecimal high = middle(size, small);
        int closed = (size & 1) == 0 ? 0 : 1;
        for (int n = 2; n <= 17; n++) {
            BigDecimal below = exact.round(new MathContext(n, RoundingMode.DOWN));
            BigDecimal above = exact.round(new MathContext(n, RoundingMode.UP));
            boolean isBelowIn = below.compareTo(low) >= closed;
            boolean isAboveIn = high.compareTo(above) >= closed;
            if (isBelowIn && isAboveIn) {
                return exact.round(new MathContext(n, RoundingMode.HALF_EVEN));
            }
            if (isBelowIn || isAboveIn) {
                return isBelowIn ? below : above;
            }
        }
        throw new IllegalStateException("17 digits do not tell " + exact);
    }

    int put(int k, int d) {
        if (d < 0 || d > 9 || k < -400 || k > 400 || less) {
            throw new IllegalArgumentException();
        }
        if (number.signum() != 0 && (k < number.scale() || point() + k + 1 > 1200)) {
            throw new IllegalArgumentException();
        }
        return become(number.add(BigDecimal.valueOf(d).scaleByPowerOfTen(-1 - k)), false);
    }

    int shift(int k) {
        if (k < -2200 || k > 2200) {
            throw new IllegalArgumentException();
        }
        return become(k < 0 ? number.divide(TWO.pow(-k)) : number.multiply(TWO.pow(k)), less);
    }

    int move(int k) {
        if (k < -5000 || k > 5000) {
            throw new IllegalArgumentException();
        }
        if (number.signum() != 0) {
            if (Math.abs(point() + k) > 10000) {
                throw new IllegalArgumentException();
            }
            number = number.scaleByPowerOfTen(k);
        }
        return point();
    }

    int round(int n) {
        return toPlaces(n, RoundingMode.HALF_UP);
    }

    int cut(int n) {
        return toPlaces(n, RoundingMode.DOWN);
    }

    private int toPlaces(int n, RoundingMode mode) {
        if (n < -2000 || n > 2000) {
            throw new IllegalArgumentException();
        }
        return become(number.scale() <= n ? number : number.setScale(n, mode), false);
    }

    int digit(int k) {
        long index = (long) point() + k;
        String digits = digits();
        return index < 0 || index >= digits.length() ? 0 : digits.charAt((int) index) - '0';
    }

    int told(int what) {
        if (what < 0 || what > 2) {
            throw new IllegalArgumentException();
        }
        return what == 0 ? count() : what == 1 ? point() : less ? 1 : 0;
    }

    /** By halving: the greatest that is not above the NUMBER, then the middle to the next decides. */
    long nearest(boolean small) {
        long most = small ? 0x7F800000L : 0x7FF0000000000000L;
        if (number.compareTo(value(most, small)) >= 0) {
            return most;
        }
        long low = 0;
        long high = most;
        while (high - low > 1) {
            long between = (low + high) >>> 1;
            if (number.compareTo(value(between, small)) >= 0) {
                low = between;
            } else {
                high = between;
            }
        }
        int side = number.compareTo(middle(low, small));
        return side > 0 || side == 0 && (less || (low & 1) != 0) ? high : low;
    }

    long digest() {
        long sum = 7;
        String digits = digits();
        for (int i = 0; i < digits.length(); i++) {
            sum = sum * 31 + (digits.charAt(i) - '0');
        }
        return sum * 31 + point();
    }
}
