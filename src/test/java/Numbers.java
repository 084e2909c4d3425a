import java.math.BigInteger;

/** Bits of finite numbers, and sums made and read through the face alone. */
final class Numbers {
    static final int LOWEST = -3222;
    static final int[] NO_SUMS = {-1, 8, 9, Integer.MIN_VALUE, Integer.MAX_VALUE};
    static final int[] TOO_MANY_TIMES = {-1000001, 1000001, Integer.MIN_VALUE, Integer.MAX_VALUE};
    static final int[] MOST_TIMES = {-1000000, -999999, 999999, 1000000};

    static final long SIGN = Long.MIN_VALUE;
    static final long ONE = Double.doubleToRawLongBits(1.0);
    static final long HALF = Double.doubleToRawLongBits(0.5);
    static final long TINY = 1L;
    static final long GREATEST = 0x7FEFFFFFFFFFFFFFL;
    static final long INFINITE = 0x7FF0000000000000L;
    static final long MOST_F = (1L << 52) - 1;
    static final long[] NOT_FINITE = {
        INFINITE, INFINITE + 1, INFINITE | 1L << 51, INFINITE | MOST_F,
        SIGN | INFINITE, SIGN | INFINITE + 1, SIGN | INFINITE | 1L << 51, SIGN | INFINITE | MOST_F,
    };

    static long of(double number) {
        return Double.doubleToRawLongBits(number);
    }

    static long bits(int e, long f) {
        return (long) e << 52 | f;
    }

    /** The bits of 2^e, for e from -1074 to 1023. */
    static long power(int e) {
        return e < -1022 ? 1L << (e + 1074) : bits(e + 1023, 0L);
    }

    /** The SIGN alone for -1, no bit at all for 1. */
    static long mark(int sign) {
        return sign < 0 ? SIGN : 0L;
    }

    /** Adds times the one number. */
    static void addNumber(TripleSums x, int s, long bits, int times) {
        x.add(s, bits, ONE, ONE, times);
    }

    /** Adds times 2^p, for p from LOWEST to 3069. */
    static void addPower(TripleSums x, int s, int p, int times) {
        int first = Math.max(-1074, Math.min(1023, p));
        int second = Math.max(-1074, Math.min(1023, p - first));
        x.add(s, power(first), power(second), power(p - first - second), times);
    }

    /** Adds times 2^LOWEST, the unit of all sums. */
    static void addUnit(TripleSums x, int s, int times) {
        x.add(s, TINY, TINY, TINY, times);
    }

    /** Makes a sum that was 0 to 2^3149 or -2^3149. */
    static void makeHalfLimit(TripleSums x, int s, int sign) {
        addPower(x, s, 3069, sign * (1 << 19));
        for (int i = 0; i < 3; i++) {
            x.plus(s, s, (1 << 19) - 1);
        }
        x.plus(s, s, 15);
    }

    /** Makes a sum that was 0 to one unit less than 2^3150, or to that below 0. */
    static void makeMost(TripleSums x, int s, int sign) {
        makeHalfLimit(x, s, sign);
        addUnit(x, s, -sign);
        x.plus(s, s, 1);
        addUnit(x, s, sign);
    }

    /** What makeMost makes of a sum, as a multiple of 2^LOWEST. */
    static BigInteger most(int sign) {
        return scaled(sign, 3150).subtract(BigInteger.valueOf(sign));
    }

    /**
     * What a sum is, as a multiple of 2^LOWEST. It looks from bottom to top alone, as an object is
     * good for no more than 512 calls: three, and one for every 64 bits.
     */
    static BigInteger exact(TripleSums x, int s) {
        BigInteger size = BigInteger.ZERO;
        int top = x.top(s);
        if (top == TripleSums.NONE) {
            return size;
        }
        for (int p = x.bottom(s); p <= top; p += 64) {
            long word = x.word(s, p);
            size = size.or(scaled(word & 0xFFFFFFFFL, p)).or(scaled(word >>> 32, p + 32));
        }
        return x.sign(s) < 0 ? size.negate() : size;
    }

    /** number * 2^p as a multiple of 2^LOWEST. */
    static BigInteger scaled(long number, int p) {
        return BigInteger.valueOf(number).shiftLeft(p - LOWEST);
    }

    private Numbers() {
    }
}
