/**
 * Decimal digits of binary numbers, exactly: of doubles and floats, of their shortest texts,
 * shifted by powers of two and ten, rounded, cut, and back to the nearest double or float.
 */
public final class ExactDigits {
    private static final int MOST_DIGITS = 1200;
    private static final int MOST_PLACE = 400;
    private static final int MOST_SHIFT = 2200;
    private static final int MOST_MOVE = 5000;
    private static final int MOST_POINT = 10000;
    private static final int MOST_ROUND = 2000;

    /** No double needs more digits than the most to be told from its neighbours. */
    private static final int LEAST_SHORTEST = 2;
    private static final int MOST_SHORTEST = 17;
    private static final long NONE = -1;

    /** Numbers with a greater point are above all doubles, with a lesser one below half the least. */
    private static final int POINT_OF_INFINITE = 310;
    private static final int POINT_OF_NOTHING = -330;

    /** The digits before the point, scaled to about this many bits, fit a long and outdo 53 bits. */
    private static final int HEAD_BITS = 60;

    private final byte[] digits;
    private int count;
    private int point;
    private boolean less;

    /** Made once and used by every call that needs a long product, so that no call makes objects. */
    private final Natural scratch;

    public ExactDigits() {
        digits = new byte[MOST_DIGITS];
        scratch = new Natural();
        count = 0;
        point = 0;
        less = false;
    }

    public int whole(long v) {
        scratch.setUnsigned(v);
        giveScratch(0);
        return count;
    }

    public int real(long bits, boolean small) throws ArithmeticException {
        Format format = formatOf(small);
        giveExact(finiteSize(bits, format), format);
        return count;
    }

    public int shortest(long bits, boolean small) throws ArithmeticException {
        Format format = formatOf(small);
        long size = finiteSize(bits, format);
        giveExact(size, format);
        shorten(size, format);
        return count;
    }

    public int put(int k, int d) throws IllegalArgumentException {
        if (d < 0 || d > 9 || isBeyond(k, MOST_PLACE) || less) {
            throw new IllegalArgumentException();
        }
        int index = count == 0 ? 0 : point + k;
        if (index < count || index >= MOST_DIGITS) {
            throw new IllegalArgumentException();
        }
        if (d != 0) {
            append(index, k, d);
        }
        return count;
    }

    public int shift(int k) throws IllegalArgumentException {
        if (isBeyond(k, MOST_SHIFT)) {
            throw new IllegalArgumentException();
        }
        scratch.setDigits(digits, count);
        int exponent = point - count + scratch.timesTwoTo(k);
        boolean wasLess = less;
        giveScratch(exponent);
        less = less || wasLess;
        return count;
    }

    public int move(int k) throws IllegalArgumentException {
        if (isBeyond(k, MOST_MOVE)) {
            throw new IllegalArgumentException();
        }
        if (count == 0) {
            return 0;
        }
        int moved = point + k;
        if (isBeyond(moved, MOST_POINT)) {
            throw new IllegalArgumentException();
        }
        point = moved;
        return point;
    }

    public int round(int n) throws IllegalArgumentException {
        if (isBeyond(n, MOST_ROUND)) {
            throw new IllegalArgumentException();
        }
        int index = point + n;
        if (index >= 0 && index < count && digits[index] >= 5) {
            keepFirstAndOneMore(index);
        } else {
            keepFirst(index);
        }
        return count;
    }

    public int cut(int n) throws IllegalArgumentException {
        if (isBeyond(n, MOST_ROUND)) {
            throw new IllegalArgumentException();
        }
        keepFirst(point + n);
        return count;
    }

    public int digit(int k) {
        // in long, since k may be any int
        long index = (long) point + k;
        return index >= 0 && index < count ? digits[(int) index] : 0;
    }

    public int told(int what) throws IllegalArgumentException {
        switch (what) {
            case 0:
                return count;
            case 1:
                return point;
            case 2:
                return less ? 1 : 0;
            default:
                throw new IllegalArgumentException();
        }
    }

    public long nearest(boolean small) {
        scratch.setDigits(digits, count);
        return nearestToScratch(point - count, less, formatOf(small));
    }

    public long digest() {
        long sum = 7;
        for (int i = 0; i < count; i++) {
            sum = sum * 31 + digits[i];
        }
        return sum * 31 + point;
    }

    private static Format formatOf(boolean small) {
        return small ? Format.FLOAT : Format.DOUBLE;
    }

    private static long finiteSize(long bits, Format format) throws ArithmeticException {
        long size = format.withoutSign(bits);
        if (size >= format.infinite) {
            throw new ArithmeticException();
        }
        return size;
    }

    private static boolean isBeyond(int k, int most) {
        return k < -most || k > most;
    }

    /** The NUMBER is given anew: scratch times 10 to the exponent. */
    private void giveScratch(int exponent) {
        int all = scratch.length();
        less = scratch.copyDigits(digits);
        count = Math.min(all, MOST_DIGITS);
        point = all + exponent;
        dropZerosBehind();
    }

    private void giveExact(long size, Format format) {
        scratch.setUnsigned(format.significand(size));
        giveScratch(scratch.timesTwoTo(format.exponent(size)));
    }

    private void dropZerosBehind() {
        while (count > 0 && digits[count - 1] == 0) {
            count--;
        }
        if (count == 0) {
            point = 0;
        }
    }

    private void append(int index, int k, int d) {
        if (count == 0) {
            point = -k;
        }
        for (int i = count; i < index; i++) {
            digits[i] = 0;
        }
        digits[index] = (byte) d;
        count = index + 1;
    }

    /** Whatever LESS had lost is gone too, for it lay behind all DIGITS. */
    private void keepFirst(int n) {
        count = Math.min(count, Math.max(n, 0));
        less = false;
        dropZerosBehind();
    }

    /** Nines that count up become zeros behind all DIGITS, so they are dropped at once. */
    private void keepFirstAndOneMore(int n) {
        int last = n - 1;
        while (last >= 0 && digits[last] == 9) {
            last--;
        }
        if (last < 0) {
            digits[0] = 1;
            count = 1;
            point++;
        } else {
            digits[last]++;
            count = last + 1;
        }
        less = false;
    }

    /**
     * The exact NUMBER becomes its shortest one. The length is found by halving, for what reads back
     * with some digits does with one more. A NUMBER as short as that stays: it is the nearest.
     */
    private void shorten(long size, Format format) {
        int least = LEAST_SHORTEST;
        int most = Math.min(count, MOST_SHORTEST);
        while (least < most) {
            int n = (least + most) / 2;
            if (neighbourReadBack(n, size, format) != NONE) {
                most = n;
            } else {
                least = n + 1;
            }
        }
        long shorter = most < count ? neighbourReadBack(most, size, format) : NONE;
        if (shorter != NONE) {
            scratch.setUnsigned(shorter);
            giveScratch(point - most);
        }
    }

    /**
     * Of the numbers with n digits only the two round the exact one can be the nearest that reads
     * back. The further one is tried too: what reads back may reach further above than below.
     */
    private long neighbourReadBack(int n, long size, Format format) {
        long below = firstDigits(n);
        long near = isNearerAbove(n, below) ? below + 1 : below;
        long far = near == below ? below + 1 : below;
        if (readsBack(near, point - n, size, format)) {
            return near;
        }
        return readsBack(far, point - n, size, format) ? far : NONE;
    }

    private long firstDigits(int n) {
        long first = 0;
        for (int i = 0; i < n && i < count; i++) {
            first = first * 10 + digits[i];
        }
        return first;
    }

    /** Of two that are as near as each other, the one with an even last digit. */
    private boolean isNearerAbove(int n, long below) {
        if (n >= count) {
            return false;
        }
        if (digits[n] != 5) {
            return digits[n] > 5;
        }
        return count > n + 1 || (below & 1) != 0;
    }

    private boolean readsBack(long v, int exponent, long size, Format format) {
        scratch.setUnsigned(v);
        return nearestToScratch(exponent, false, format) == size;
    }

    /** The nearest to scratch times 10 to the exponent, and a little more if some was lost. */
    private long nearestToScratch(int exponent, boolean more, Format format) {
        int all = scratch.length();
        if (all == 0 || all + exponent < POINT_OF_NOTHING) {
            return 0;
        }
        if (all + exponent > POINT_OF_INFINITE) {
            return format.infinite;
        }
        int k = HEAD_BITS - bitsOfTenTo(all + exponent);
        int units = exponent + scratch.timesTwoTo(k);
        long head = scratch.firstDigits(scratch.length() + units);
        return format.nearestTo(head, more || scratch.hasDigitBelow(-units), -k);
    }

    /** The logarithm of ten to base two, as 217706 / 65536, is near enough for all points told above. */
    private static int bitsOfTenTo(int power) {
        return power * 217706 >> 16;
    }

    /** How the bits of a double or a float are laid out. */
    private enum Format {
        DOUBLE(52, -1074, 0x7FFFFFFFFFFFFFFFL, 0x7FF0000000000000L),
        FLOAT(23, -149, 0x7FFFFFFFL, 0x7F800000L);

        final int fractionBits;
        final int leastExponent;
        final long sizeMask;
        final long infinite;

        Format(int fractionBits, int leastExponent, long sizeMask, long infinite) {
            this.fractionBits = fractionBits;
            this.leastExponent = leastExponent;
            this.sizeMask = sizeMask;
            this.infinite = infinite;
        }

        long withoutSign(long bits) {
            return bits & sizeMask;
        }

        long significand(long size) {
            long leading = 1L << fractionBits;
            long fraction = size & (leading - 1);
            return size < leading ? fraction : fraction | leading;
        }

        int exponent(long size) {
            int field = (int) (size >>> fractionBits);
            return leastExponent + Math.max(field - 1, 0);
        }

        /** Head (above 0, of more bits than a significand) and a little more, times 2 to the exponent. */
        long nearestTo(long head, boolean more, int exponent) {
            int spare = bitsOf(head) - 1 - fractionBits;
            int drop = Math.max(spare, leastExponent - exponent);
            int steps = exponent + drop - leastExponent;
            if (drop > 63) {
                return 0;
            }
            // the fields that have a leading 1 beside them begin at 1, so two below the infinite's
            if (steps > (infinite >>> fractionBits) - 2) {
                return infinite;
            }
            long kept = head >>> drop;
            long dropped = head - (kept << drop);
            long half = 1L << (drop - 1);
            boolean up = dropped > half || dropped == half && (more || (kept & 1) != 0);
            // added, not joined: the leading 1 and a carry then count up the exponent's field
            return ((long) steps << fractionBits) + kept + (up ? 1 : 0);
        }

        private static int bitsOf(long head) {
            int bits = 0;
            while (bits < 64 && head >>> bits != 0) {
                bits++;
            }
            return bits;
        }
    }

    /** A whole number not below 0, in parts of nine decimal digits, the lowest first. */
    private static final class Natural {
        private static final int PART_DIGITS = 9;
        private static final long PART_LIMIT = 1000000000L;
        private static final long HALF_LIMIT = 500000000L;

        /** Room for 1200 digits times 5 to the 2200, that is 2738 digits. */
        private static final int MOST_PARTS = 306;

        /** The greatest powers below the limit of a part, so that a carry always fits one. */
        private static final int TWOS_AT_ONCE = 29;
        private static final int FIVES_AT_ONCE = 12;
        private static final int[] POWERS_OF_FIVE = {
            1, 5, 25, 125, 625, 3125, 15625, 78125, 390625, 1953125, 9765625, 48828125, 244140625
        };

        private final int[] parts = new int[MOST_PARTS];
        private int size = 0;

        void setUnsigned(long v) {
            long rest = v;
            size = 0;
            while (rest != 0 && size < parts.length) {
                // halves first: a long above the greatest would divide as one below 0
                long above = (rest >>> 1) / HALF_LIMIT;
                parts[size] = (int) (rest - above * PART_LIMIT);
                rest = above;
                size++;
            }
        }

        void setDigits(byte[] row, int n) {
            int part = 0;
            size = (n + PART_DIGITS - 1) / PART_DIGITS;
            for (int i = 0; i < n; i++) {
                int place = n - 1 - i;
                part = part * 10 + row[i];
                if (place % PART_DIGITS == 0) {
                    parts[place / PART_DIGITS] = part;
                    part = 0;
                }
            }
        }

        /** The answer is the power of ten that is still to be multiplied, for this stays whole. */
        int timesTwoTo(int k) {
            for (int left = k; left > 0; left -= TWOS_AT_ONCE) {
                times(1 << Math.min(left, TWOS_AT_ONCE));
            }
            for (int left = -k; left > 0; left -= FIVES_AT_ONCE) {
                times(POWERS_OF_FIVE[Math.min(left, FIVES_AT_ONCE)]);
            }
            return Math.min(k, 0);
        }

        private void times(int factor) {
            long carry = 0;
            for (int i = 0; i < size; i++) {
                long product = (long) parts[i] * factor + carry;
                carry = product / PART_LIMIT;
                parts[i] = (int) (product - carry * PART_LIMIT);
            }
            if (carry != 0 && size < parts.length) {
                parts[size] = (int) carry;
                size++;
            }
        }

        int length() {
            if (size == 0) {
                return 0;
            }
            int length = (size - 1) * PART_DIGITS;
            for (int rest = parts[size - 1]; rest > 0; rest /= 10) {
                length++;
            }
            return length;
        }

        /** The first digits go into the row; the answer is whether one that is not 0 found no room. */
        boolean copyDigits(byte[] row) {
            int all = length();
            int rest = 0;
            for (int place = 0; place < all; place++) {
                rest = place % PART_DIGITS == 0 ? parts[place / PART_DIGITS] : rest / 10;
                int index = all - 1 - place;
                if (index < row.length) {
                    row[index] = (byte) (rest % 10);
                }
            }
            return hasDigitBelow(all - row.length);
        }

        /** Zeros stand behind the last digit if n is more than there are. */
        long firstDigits(int n) {
            int all = length();
            long first = 0;
            for (int i = 0; i < n; i++) {
                first = first * 10 + (i < all ? digitAt(all - 1 - i) : 0);
            }
            return first;
        }

        private int digitAt(int place) {
            int part = parts[place / PART_DIGITS];
            for (int i = place % PART_DIGITS; i > 0; i--) {
                part /= 10;
            }
            return part % 10;
        }

        boolean hasDigitBelow(int place) {
            int end = Math.min(place, length());
            int rest = 0;
            for (int i = 0; i < end; i++) {
                rest = i % PART_DIGITS == 0 ? parts[i / PART_DIGITS] : rest / 10;
                if (rest % 10 != 0) {
                    return true;
                }
            }
            return false;
        }
    }
}
