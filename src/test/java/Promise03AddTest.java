import java.math.BigInteger;

/** add: more by exactly x * y * z * times. */
public final class Promise03AddTest {
    private static final long[] NOT_FINITE = {
        Numbers.INFINITE, Numbers.SIGN | Numbers.INFINITE, Numbers.INFINITE + 1, -1L, Long.MAX_VALUE,
    };

    public static void main(String[] args) {
        Check check = new Check();
        ordinary(check);
        signs(check);
        extremes(check);
        cancels(check);
        carriesAllTheWay(check);
        mayPassTheLimitOfPlus(check);
        refusals(check);
        check.end();
    }

    private static BigInteger sumOf(long x, long y, long z, int times) {
        TripleSums sums = new TripleSums();
        sums.add(4, x, y, z, times);
        return Numbers.exact(sums, 4);
    }

    private static void ordinary(Check check) {
        check.same("2 * 3 * 5 * 7",
                sumOf(Numbers.of(2), Numbers.of(3), Numbers.of(5), 7), Numbers.scaled(210, 0));
        check.same("0.5 * 0.75 * 1 * 3",
                sumOf(Numbers.HALF, Numbers.of(0.75), Numbers.ONE, 3), Numbers.scaled(9, -3));
        TripleSums x = new TripleSums();
        x.add(0, Numbers.of(3), Numbers.ONE, Numbers.ONE, 1);
        x.add(0, Numbers.of(0.25), Numbers.ONE, Numbers.ONE, 1);
        check.same("3 + 0.25", Numbers.exact(x, 0), Numbers.scaled(13, -2));
    }

    private static void signs(Check check) {
        for (int signs = 0; signs < 16; signs++) {
            long a = Numbers.of((signs & 1) == 0 ? 2 : -2);
            long b = Numbers.of((signs & 2) == 0 ? 3 : -3);
            long c = Numbers.of((signs & 4) == 0 ? 5 : -5);
            int times = (signs & 8) == 0 ? 7 : -7;
            int due = Integer.bitCount(signs) % 2 == 0 ? 210 : -210;
            check.same("signs " + signs, sumOf(a, b, c, times), Numbers.scaled(due, 0));
        }
        check.same("-0 * 0 * 1", sumOf(Numbers.SIGN, 0L, Numbers.ONE, 5), BigInteger.ZERO);
        check.same("-0 * greatest", sumOf(Numbers.SIGN, Numbers.GREATEST, Numbers.GREATEST, 1000000),
                BigInteger.ZERO);
        check.same("times 0", sumOf(Numbers.GREATEST, Numbers.GREATEST, Numbers.GREATEST, 0),
                BigInteger.ZERO);
    }

    private static void extremes(Check check) {
        check.same("tiny^3", sumOf(1L, 1L, 1L, 1), BigInteger.ONE);
        check.same("tiny^3 * -1000000", sumOf(1L, 1L, 1L, -1000000), BigInteger.valueOf(-1000000));
        BigInteger most = BigInteger.valueOf((1L << 53) - 1);
        BigInteger cube = most.pow(3).multiply(BigInteger.valueOf(1000000));
        BigInteger due = cube.shiftLeft(3 * 971 + 3222);
        long g = Numbers.GREATEST;
        check.same("greatest^3 * 1000000", sumOf(g, g, g, 1000000), due);
        check.same("greatest^3 * -1000000", sumOf(g, g, g, -1000000), due.negate());
        long subnormal = (1L << 52) - 1;
        check.same("greatest subnormal^3", sumOf(subnormal, subnormal, subnormal, 1),
                BigInteger.valueOf(subnormal).pow(3));
        check.same("least normal^3", sumOf(1L << 52, 1L << 52, 1L << 52, 1),
                BigInteger.ONE.shiftLeft(156));
        check.same("E 2 is twice E 1", sumOf(2L << 52, 1L << 52, 1L << 52, 1),
                BigInteger.ONE.shiftLeft(157));
    }

    private static void cancels(Check check) {
        TripleSums x = new TripleSums();
        long g = Numbers.GREATEST;
        x.add(0, g, g, g, 1000000);
        x.add(0, 1L, 1L, 1L, 1);
        x.add(0, g, g, Numbers.SIGN | g, 1000000);
        check.same("what is left", Numbers.exact(x, 0), BigInteger.ONE);
        x.add(0, 1L, 1L, Numbers.SIGN | 1L, 1);
        check.same("nothing is left", Numbers.exact(x, 0), BigInteger.ZERO);
        check.same("nothing has no sign", x.nearest(0), 0L);
    }

    private static void carriesAllTheWay(Check check) {
        TripleSums x = new TripleSums();
        Numbers.addPower(x, 0, 3069, 1);
        Numbers.addPower(x, 0, Numbers.LOWEST, -1);
        BigInteger due = Numbers.scaled(1, 3069).subtract(BigInteger.ONE);
        check.same("2^3069 - 2^-3222", Numbers.exact(x, 0), due);
        Numbers.addPower(x, 0, Numbers.LOWEST, 1);
        check.same("2^3069", Numbers.exact(x, 0), Numbers.scaled(1, 3069));
        Numbers.addPower(x, 0, 3069, -2);
        Numbers.addPower(x, 0, Numbers.LOWEST, 1);
        check.same("-(2^3069 - 2^-3222)", Numbers.exact(x, 0), due.negate());
    }

    private static void mayPassTheLimitOfPlus(Check check) {
        TripleSums x = new TripleSums();
        Numbers.makeHalfLimit(x, 0, 1);
        Numbers.addPower(x, 1, Numbers.LOWEST, -1);
        x.plus(1, 0, 1);
        x.plus(0, 1, 1);
        check.same("2^3150 - 2^-3222", x.top(0), 3149);
        Numbers.addPower(x, 0, Numbers.LOWEST, 1);
        check.same("2^3150", Numbers.exact(x, 0), Numbers.scaled(1, 3150));
        for (int i = 0; i < 400; i++) {
            x.add(0, Numbers.GREATEST, Numbers.GREATEST, Numbers.GREATEST, 1000000);
        }
        BigInteger cube = BigInteger.valueOf((1L << 53) - 1).pow(3).shiftLeft(3 * 971 + 3222);
        BigInteger due = Numbers.scaled(1, 3150).add(cube.multiply(BigInteger.valueOf(400000000)));
        check.same("2^3150 and 400 of the greatest", Numbers.exact(x, 0), due);
    }

    private static void refusals(Check check) {
        TripleSums x = new TripleSums();
        x.add(0, Numbers.ONE, Numbers.ONE, Numbers.ONE, 1);
        Class<IllegalArgumentException> illegal = IllegalArgumentException.class;
        for (long bad : NOT_FINITE) {
            check.refuses("x " + bad, illegal, () -> x.add(0, bad, Numbers.ONE, Numbers.ONE, 1));
            check.refuses("y " + bad, illegal, () -> x.add(0, Numbers.ONE, bad, Numbers.ONE, 1));
            check.refuses("z " + bad, illegal, () -> x.add(0, Numbers.ONE, Numbers.ONE, bad, 1));
            check.refuses("x " + bad + ", 0 times", illegal, () -> x.add(0, bad, 0L, 0L, 0));
            check.noSuchSum("no sum, x " + bad, () -> x.add(8, bad, 0L, 0L, 1));
        }
        for (int times : Numbers.TOO_MANY_TIMES) {
            check.refuses("times " + times, illegal,
                    () -> x.add(0, Numbers.ONE, Numbers.ONE, Numbers.ONE, times));
            check.refuses("times " + times + " of 0", illegal, () -> x.add(0, 0L, 0L, 0L, times));
            check.noSuchSum("no sum, times " + times, () -> x.add(-1, 0L, 0L, 0L, times));
        }
        for (int s : Numbers.NO_SUMS) {
            check.noSuchSum("add(" + s + ")", () -> x.add(s, Numbers.ONE, Numbers.ONE, Numbers.ONE, 1));
        }
        check.same("the sum stays", Numbers.exact(x, 0), Numbers.scaled(1, 0));
    }
}
