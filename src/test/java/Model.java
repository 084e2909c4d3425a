import java.math.BigInteger;

/** The document once more, over BigInteger and by its definitions, to compare the class with. */
final class Model {
    private static final BigInteger LIMIT = BigInteger.ONE.shiftLeft(3150 + 3222);
    private static final BigInteger INFINITE_FROM =
            BigInteger.ONE.shiftLeft(54).subtract(BigInteger.ONE).shiftLeft(970 + 3222);

    final BigInteger[] sums = new BigInteger[8];

    Model() {
        java.util.Arrays.fill(sums, BigInteger.ZERO);
    }

    void clear(int s) {
        check(s);
        sums[s] = BigInteger.ZERO;
    }

    void add(int s, long x, long y, long z, int times) {
        check(s);
        if (!finite(x) || !finite(y) || !finite(z)) {
            throw new IllegalArgumentException();
        }
        checkTimes(times);
        BigInteger product = value(x).multiply(value(y)).multiply(value(z));
        sums[s] = sums[s].add(product.multiply(BigInteger.valueOf(times)));
    }

    void plus(int s, int other, int times) {
        check(s);
        check(other);
        checkTimes(times);
        BigInteger result = sums[s].add(sums[other].multiply(BigInteger.valueOf(times)));
        if (result.abs().compareTo(LIMIT) >= 0) {
            throw new IllegalStateException();
        }
        sums[s] = result;
    }

    int sign(int s) {
        check(s);
        return sums[s].signum();
    }

    int compare(int s, int other) {
        check(s);
        check(other);
        return sums[s].compareTo(sums[other]);
    }

    int compareSizes(int s, int other) {
        check(s);
        check(other);
        return sums[s].abs().compareTo(sums[other].abs());
    }

    /** Seeks the finite numbers on both sides of the size and takes the nearer one. */
    long nearest(int s) {
        check(s);
        BigInteger size = sums[s].abs();
        long sign = sums[s].signum() < 0 ? Long.MIN_VALUE : 0;
        if (size.compareTo(INFINITE_FROM) >= 0) {
            return sign | 2047L << 52;
        }
        long low = 0;
        long high = (2047L << 52) - 1;
        while (low < high) {
            long middle = low + (high - low + 1) / 2;
            if (inUnits(middle).compareTo(size) <= 0) {
                low = middle;
            } else {
                high = middle - 1;
            }
        }
        if (!finite(low + 1)) {
            return sign | low;
        }
        BigInteger under = size.subtract(inUnits(low));
        BigInteger over = inUnits(low + 1).subtract(size);
        int nearer = under.compareTo(over);
        boolean up = nearer > 0 || nearer == 0 && (low & 1) != 0;
        return sign | (up ? low + 1 : low);
    }

    int top(int s) {
        check(s);
        return sums[s].signum() == 0 ? -100000 : sums[s].abs().bitLength() - 1 - 3222;
    }

    int bottom(int s) {
        check(s);
        return sums[s].signum() == 0 ? -100000 : sums[s].getLowestSetBit() - 3222;
    }

    boolean bit(int s, int p) {
        check(s);
        return p >= -3222 && p < 4000 && sums[s].abs().testBit(p + 3222);
    }

    long word(int s, int p) {
        check(s);
        long word = 0;
        for (int j = 0; j < 64; j++) {
            if (p <= Integer.MAX_VALUE - j && bit(s, p + j)) {
                word |= 1L << j;
            }
        }
        return word;
    }

    static boolean finite(long bits) {
        return (bits >>> 52 & 2047) != 2047;
    }

    /** A finite number as a multiple of 2^-1074. */
    static BigInteger value(long bits) {
        long fraction = bits & (1L << 52) - 1;
        int e = (int) (bits >>> 52 & 2047);
        BigInteger size = e == 0
                ? BigInteger.valueOf(fraction)
                : BigInteger.valueOf((1L << 52) + fraction).shiftLeft(e - 1);
        return bits < 0 ? size.negate() : size;
    }

    private static BigInteger inUnits(long bits) {
        return value(bits).shiftLeft(3222 - 1074);
    }

    private static void check(int s) {
        if (s < 0 || s > 7) {
            throw new IndexOutOfBoundsException();
        }
    }

    private static void checkTimes(int times) {
        if (times < -1000000 || times > 1000000) {
            throw new IllegalArgumentException();
        }
    }
}
