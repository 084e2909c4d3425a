import java.util.Arrays;

/**
 * Eight exact sums of products of three binary numbers.
 *
 * <p>Every sum is a whole multiple of 2^LOWEST, so each is held as a whole number of that unit:
 * bit p of a sum is the whole number's bit p - LOWEST, here called its place.
 */
public final class TripleSums {
    public static final int NONE = -100000;

    private static final int SUMS = 8;
    private static final int MOST_TIMES = 1000000;
    private static final int LOWEST = -3222;
    private static final int LIMIT_PLACE = 3150 - LOWEST;

    private static final int FRACTION_BITS = 52;
    private static final long HIDDEN_BIT = 1L << FRACTION_BITS;
    private static final int EXPONENT_MASK = 2047;
    private static final long INFINITE = (long) EXPONENT_MASK << FRACTION_BITS;
    private static final int SMALLEST_PLACE = -1074 - LOWEST;
    private static final int GREATEST_PLACE = 1023 - LOWEST;

    private static final int LIMB_BITS = 32;
    private static final long LIMB_MASK = (1L << LIMB_BITS) - 1;
    private static final long SIGN_LIMB = 1L << (LIMB_BITS - 1);
    // 6400 bits: plus works out what it may refuse, up to (10^6 + 1) sums of little more than
    // 2^3150 each, which is below place 6392; a bit for the sign stands above that.
    private static final int LIMBS = 200;

    private final Whole[] sums = new Whole[SUMS];
    // Made once and used again by every call, as all memory is to be made with the object.
    private final Whole product = new Whole();
    private final Whole result = new Whole();
    private final Whole size = new Whole();

    public TripleSums() {
        for (int s = 0; s < SUMS; s++) {
            sums[s] = new Whole();
        }
    }

    public void clear(int s) throws IndexOutOfBoundsException {
        sumAt(s).setZero();
    }

    public void add(int s, long x, long y, long z, int times)
            throws IndexOutOfBoundsException, IllegalArgumentException {
        Whole sum = sumAt(s);
        refuseUnlessFinite(x);
        refuseUnlessFinite(y);
        refuseUnlessFinite(z);
        refuseUnlessInRange(times);
        product.setPowerOfTwo(shiftOf(x) + shiftOf(y) + shiftOf(z));
        product.multiply(significandOf(x));
        product.multiply(significandOf(y));
        product.multiply(significandOf(z));
        boolean negative = (x ^ y ^ z) < 0;
        sum.increase(product, negative ? -times : times);
    }

    public void plus(int s, int other, int times)
            throws IndexOutOfBoundsException, IllegalArgumentException, IllegalStateException {
        Whole sum = sumAt(s);
        Whole addend = sumAt(other);
        refuseUnlessInRange(times);
        result.copyFrom(sum);
        result.increase(addend, times);
        if (sizeOf(result).highestPlace() >= LIMIT_PLACE) {
            throw new IllegalStateException("the sum's size would be 2^3150 or more");
        }
        sum.copyFrom(result);
    }

    public int sign(int s) throws IndexOutOfBoundsException {
        return sumAt(s).signum();
    }

    public int compare(int s, int other) throws IndexOutOfBoundsException {
        Whole left = sumAt(s);
        Whole right = sumAt(other);
        result.copyFrom(left);
        result.increase(right, -1);
        return result.signum();
    }

    public int compareSizes(int s, int other) throws IndexOutOfBoundsException {
        Whole left = sumAt(s);
        Whole right = sumAt(other);
        Whole difference = sizeOf(left);
        difference.increase(right, -right.signum());
        return difference.signum();
    }

    public long nearest(int s) throws IndexOutOfBoundsException {
        Whole sum = sumAt(s);
        long signBit = sum.signum() < 0 ? Long.MIN_VALUE : 0L;
        return signBit | nearestToSize(sizeOf(sum));
    }

    public int top(int s) throws IndexOutOfBoundsException {
        return powerAt(sizeOf(sumAt(s)).highestPlace());
    }

    public int bottom(int s) throws IndexOutOfBoundsException {
        return powerAt(sizeOf(sumAt(s)).lowestPlace());
    }

    public boolean bit(int s, int p) throws IndexOutOfBoundsException {
        return (wordOfSize(sumAt(s), p) & 1L) != 0;
    }

    public long word(int s, int p) throws IndexOutOfBoundsException {
        return wordOfSize(sumAt(s), p);
    }

    private Whole sumAt(int s) {
        if (s < 0 || s >= SUMS) {
            throw new IndexOutOfBoundsException("there is no such sum");
        }
        return sums[s];
    }

    private static void refuseUnlessFinite(long bits) {
        if (exponentOf(bits) == EXPONENT_MASK) {
            throw new IllegalArgumentException("the bits are no finite number");
        }
    }

    private static void refuseUnlessInRange(int times) {
        if (times < -MOST_TIMES || times > MOST_TIMES) {
            throw new IllegalArgumentException("times is not -1000000 .. 1000000");
        }
    }

    private static int exponentOf(long bits) {
        return (int) (bits >>> FRACTION_BITS) & EXPONENT_MASK;
    }

    private static long significandOf(long bits) {
        long fraction = bits & (HIDDEN_BIT - 1);
        return exponentOf(bits) == 0 ? fraction : fraction | HIDDEN_BIT;
    }

    /** By how many places the significand stands above the unit of the smallest numbers. */
    private static int shiftOf(long bits) {
        return Math.max(exponentOf(bits), 1) - 1;
    }

    private Whole sizeOf(Whole sum) {
        size.setZero();
        size.increase(sum, sum.signum());
        return size;
    }

    private static int powerAt(int place) {
        return place == NONE ? NONE : place + LOWEST;
    }

    private long wordOfSize(Whole sum, int p) {
        // As a long, since p - LOWEST may be beyond the ints.
        return sizeOf(sum).wordFrom((long) p - LOWEST);
    }

    private static long nearestToSize(Whole size) {
        int high = size.highestPlace();
        if (high > GREATEST_PLACE) {
            return INFINITE;
        }
        int unit = Math.max(high - FRACTION_BITS, SMALLEST_PLACE);
        long kept = size.wordFrom(unit);
        if (roundsUp(size, unit, kept)) {
            kept++;
        }
        // The hidden bit of kept counts E up by one, and so does a carry out of its 53 bits:
        // that makes the least normal number of the subnormals, and INFINITE of the greatest.
        return ((long) (unit - SMALLEST_PLACE) << FRACTION_BITS) + kept;
    }

    private static boolean roundsUp(Whole size, int unit, long kept) {
        int half = unit - 1;
        if ((size.wordFrom(half) & 1L) == 0) {
            return false;
        }
        return (kept & 1L) != 0 || size.lowestPlace() < half;
    }

    /**
     * A whole number in two's complement, in limbs of 32 bits, the lowest first. Each limb stands
     * in a long, 0 to 2^32 - 1, so that the arithmetic needs no care for a limb's sign.
     */
    private static final class Whole {
        private final long[] limbs = new long[LIMBS];

        void setZero() {
            Arrays.fill(limbs, 0L);
        }

        void setPowerOfTwo(int place) {
            setZero();
            int limb = place >> 5;
            if (limb >= 0 && limb < LIMBS) {
                limbs[limb] = 1L << (place & 31);
            }
        }

        void copyFrom(Whole other) {
            System.arraycopy(other.limbs, 0, limbs, 0, LIMBS);
        }

        /** Multiplies by a factor from 0 to 2^53 - 1. */
        void multiply(long factor) {
            long factorLow = factor & LIMB_MASK;
            long factorHigh = factor >>> LIMB_BITS;
            long carry = 0;
            for (int k = 0; k < LIMBS; k++) {
                // Below 2^64, though not always below 2^63: so it is shifted without its sign.
                long low = limbs[k] * factorLow + (carry & LIMB_MASK);
                carry = limbs[k] * factorHigh + (carry >>> LIMB_BITS) + (low >>> LIMB_BITS);
                limbs[k] = low & LIMB_MASK;
            }
        }

        /** Adds times another one, for times from -2^20 to 2^20. */
        void increase(Whole other, int times) {
            long carry = 0;
            for (int k = 0; k < LIMBS; k++) {
                long total = limbs[k] + other.limbs[k] * times + carry;
                limbs[k] = total & LIMB_MASK;
                carry = total >> LIMB_BITS;
            }
        }

        int signum() {
            if (limbs[LIMBS - 1] >= SIGN_LIMB) {
                return -1;
            }
            return highestPlace() == NONE ? 0 : 1;
        }

        /** The place of the highest 1 bit; NONE for 0. */
        int highestPlace() {
            for (int k = LIMBS - 1; k >= 0; k--) {
                if (limbs[k] != 0) {
                    return k * LIMB_BITS + 63 - Long.numberOfLeadingZeros(limbs[k]);
                }
            }
            return NONE;
        }

        /** The place of the lowest 1 bit; NONE for 0. */
        int lowestPlace() {
            for (int k = 0; k < LIMBS; k++) {
                if (limbs[k] != 0) {
                    return k * LIMB_BITS + Long.numberOfTrailingZeros(limbs[k]);
                }
            }
            return NONE;
        }

        /** The 64 bits from a place on, for a number that is not below 0. */
        long wordFrom(long place) {
            int first = (int) (place >> 5);
            int shift = (int) (place & 31);
            long low = limbAt(first) | limbAt(first + 1) << LIMB_BITS;
            // A shift by 64 is one by 0 in Java.
            return shift == 0 ? low : low >>> shift | limbAt(first + 2) << (64 - shift);
        }

        private long limbAt(int k) {
            return k >= 0 && k < LIMBS ? limbs[k] : 0L;
        }
    }
}
