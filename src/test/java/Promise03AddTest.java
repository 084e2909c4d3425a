import java.math.BigInteger;

/** Promise 3, add. */
public final class Promise03AddTest {
    private static final String MORE = "A sum becomes more by x * y * z * times.";

    public static void main(String[] args) {
        Check check = new Check();
        check.test(Promise03AddTest::ordinary);
        check.test(Promise03AddTest::signs);
        check.test(Promise03AddTest::zeros);
        check.test(Promise03AddTest::extremes);
        check.test(Promise03AddTest::cancels);
        check.test(Promise03AddTest::carriesAllTheWay);
        check.test(Promise03AddTest::mayPassTheLimitOfPlus);
        check.test(Promise03AddTest::noSuchSum);
        check.test(Promise03AddTest::notFinite);
        check.test(Promise03AddTest::timesOutOfRange);
        check.end();
    }

    private static BigInteger sumOf(long x, long y, long z, int times) {
        TripleSums sums = new TripleSums();
        sums.add(4, x, y, z, times);
        return Numbers.exact(sums, 4);
    }

    private static void ordinary(Check check) {
        check.sentence("Promise 3", MORE);
        check.same("2 * 3 * 5 * 7",
                sumOf(Numbers.of(2), Numbers.of(3), Numbers.of(5), 7), Numbers.scaled(210, 0));
        check.same("0.5 * 0.75 * 1 * 3",
                sumOf(Numbers.HALF, Numbers.of(0.75), Numbers.ONE, 3), Numbers.scaled(9, -3));
        TripleSums x = new TripleSums();
        x.add(0, Numbers.of(3), Numbers.ONE, Numbers.ONE, 1);
        x.add(0, Numbers.of(0.25), Numbers.ONE, Numbers.ONE, 1);
        check.same("3 + 0.25", Numbers.exact(x, 0), Numbers.scaled(13, -2));
        for (int s = 1; s < 8; s++) {
            check.same("sum " + s + " stays", x.sign(s), 0);
        }
    }

    private static void signs(Check check) {
        check.sentence("Promise 3", MORE);
        for (int signs = 0; signs < 16; signs++) {
            long a = Numbers.of((signs & 1) == 0 ? 2 : -2);
            long b = Numbers.of((signs & 2) == 0 ? 3 : -3);
            long c = Numbers.of((signs & 4) == 0 ? 5 : -5);
            int times = (signs & 8) == 0 ? 7 : -7;
            int due = Integer.bitCount(signs) % 2 == 0 ? 210 : -210;
            check.same("signs " + signs, sumOf(a, b, c, times), Numbers.scaled(due, 0));
        }
    }

    private static void zeros(Check check) {
        check.sentence("Promise 3", MORE);
        check.same("-0 * 0 * 1", sumOf(Numbers.SIGN, 0L, Numbers.ONE, 5), BigInteger.ZERO);
        check.same("-0 * greatest", sumOf(Numbers.SIGN, Numbers.GREATEST, Numbers.GREATEST, 1000000),
                BigInteger.ZERO);
        check.same("times 0", sumOf(Numbers.GREATEST, Numbers.GREATEST, Numbers.GREATEST, 0),
                BigInteger.ZERO);
        long[] none = {0L, Numbers.SIGN};
        for (long zero : none) {
            TripleSums x = new TripleSums();
            Numbers.addNumber(x, 0, Numbers.of(-9), 1);
            x.add(0, zero, Numbers.GREATEST, Numbers.GREATEST, 1000000);
            x.add(0, Numbers.GREATEST, zero, Numbers.GREATEST, -1000000);
            x.add(0, Numbers.GREATEST, Numbers.GREATEST, zero, 1);
            x.add(0, Numbers.GREATEST, Numbers.GREATEST, Numbers.GREATEST, 0);
            check.same("-9 and nothing", Numbers.exact(x, 0), Numbers.scaled(-9, 0));
        }
    }

    private static void extremes(Check check) {
        check.sentence("Promise 3", MORE);
        check.same("tiny^3", sumOf(1L, 1L, 1L, 1), BigInteger.ONE);
        check.same("tiny^3 * -1000000", sumOf(1L, 1L, 1L, -1000000), BigInteger.valueOf(-1000000));
        BigInteger most = BigInteger.valueOf((1L << 53) - 1);
        BigInteger cube = most.pow(3).multiply(BigInteger.valueOf(1000000));
        BigInteger due = cube.shiftLeft(3 * 971 + 3222);
        long g = Numbers.GREATEST;
        check.same("greatest^3 * 1000000", sumOf(g, g, g, 1000000), due);
        check.same("greatest^3 * -1000000", sumOf(g, g, g, -1000000), due.negate());
        long subnormal = Numbers.MOST_F;
        check.same("greatest subnormal^3", sumOf(subnormal, subnormal, subnormal, 1),
                BigInteger.valueOf(subnormal).pow(3));
        check.same("least normal^3", sumOf(1L << 52, 1L << 52, 1L << 52, 1),
                BigInteger.ONE.shiftLeft(156));
    }

    private static void cancels(Check check) {
        check.sentence("Promise 3", MORE);
        TripleSums x = new TripleSums();
        long g = Numbers.GREATEST;
        x.add(0, g, g, g, 1000000);
        x.add(0, 1L, 1L, 1L, 1);
        x.add(0, g, g, Numbers.SIGN | g, 1000000);
        check.same("what is left", Numbers.exact(x, 0), BigInteger.ONE);
        x.add(0, 1L, 1L, Numbers.SIGN | 1L, 1);
        check.same("nothing is left", Numbers.exact(x, 0), BigInteger.ZERO);
        check.same("nothing has no sign", x.nearest(0), 0L);
    }

    private static void carriesAllTheWay(Check check) {
        check.sentence("Promise 3", MORE);
        TripleSums x = new TripleSums();
        Numbers.addPower(x, 0, 3069, 1);
        Numbers.addUnit(x, 0, -1);
        BigInteger due = Numbers.scaled(1, 3069).subtract(BigInteger.ONE);
        check.same("2^3069 - 2^-3222", Numbers.exact(x, 0), due);
        Numbers.addUnit(x, 0, 1);
        check.same("2^3069", Numbers.exact(x, 0), Numbers.scaled(1, 3069));
        Numbers.addPower(x, 0, 3069, -2);
        Numbers.addUnit(x, 0, 1);
        check.same("-(2^3069 - 2^-3222)", Numbers.exact(x, 0), due.negate());
    }

    /** The document names no size from which on add would refuse. */
    private static void mayPassTheLimitOfPlus(Check check) {
        check.sentence("Promise 3", MORE);
        for (int sign = -1; sign <= 1; sign += 2) {
            TripleSums x = new TripleSums();
            Numbers.makeMost(x, 0, sign);
            check.same("2^3150 - 2^-3222", x.top(0), 3149);
            Numbers.addUnit(x, 0, sign);
            check.same("2^3150", Numbers.exact(x, 0), Numbers.scaled(sign, 3150));
            for (int i = 0; i < 390; i++) {
                x.add(0, Numbers.GREATEST, Numbers.GREATEST, Numbers.GREATEST, sign * 1000000);
            }
            BigInteger cube = BigInteger.valueOf((1L << 53) - 1).pow(3).shiftLeft(3 * 971 + 3222);
            BigInteger more = cube.multiply(BigInteger.valueOf(sign * 390000000));
            BigInteger due = Numbers.scaled(sign, 3150).add(more);
            check.same("2^3150 and 390 of the greatest", Numbers.exact(x, 0), due);
        }
    }

    private static void noSuchSum(Check check) {
        check.sentence("Promise 3", "IndexOutOfBoundsException when there is no such sum");
        TripleSums x = new TripleSums();
        long one = Numbers.ONE;
        for (int s : Numbers.NO_SUMS) {
            check.noSuchSum("add(" + s + ")", () -> x.add(s, one, one, one, 1));
            check.noSuchSum("add(" + s + ") of nothing", () -> x.add(s, 0L, 0L, 0L, 0));
            // Where two of the exceptions fit, the first that the document lists is thrown.
            for (long bad : Numbers.NOT_FINITE) {
                check.noSuchSum("add(" + s + "), x " + bad, () -> x.add(s, bad, 0L, 0L, 1));
            }
            for (int times : Numbers.TOO_MANY_TIMES) {
                check.noSuchSum("add(" + s + "), times " + times, () -> x.add(s, 0L, 0L, 0L, times));
            }
        }
        for (int s = 0; s < 8; s++) {
            int sum = s;
            check.same("sum " + s + " after refusals", x.sign(s), 0);
            check.accepts("add(" + s + ")", () -> x.add(sum, one, one, one, 1));
        }
    }

    private static void notFinite(Check check) {
        check.sentence("Promise 3", "IllegalArgumentException when one of the three is no finite number");
        long one = Numbers.ONE;
        for (long bad : Numbers.NOT_FINITE) {
            TripleSums x = new TripleSums();
            x.add(0, one, one, one, 1);
            check.illegal("x " + bad, () -> x.add(0, bad, one, one, 1));
            check.illegal("y " + bad, () -> x.add(0, one, bad, one, 1));
            check.illegal("z " + bad, () -> x.add(0, one, one, bad, 1));
            check.illegal("all of them " + bad, () -> x.add(0, bad, bad, bad, 1));
            check.illegal("x " + bad + ", 0 times", () -> x.add(0, bad, 0L, 0L, 0));
            check.illegal("y " + bad + ", 0 times", () -> x.add(0, 0L, bad, 0L, 0));
            check.illegal("z " + bad + ", 0 times", () -> x.add(0, 0L, 0L, bad, 0));
            check.same("the sum stays", Numbers.exact(x, 0), Numbers.scaled(1, 0));
        }
        long[] greatest = {Numbers.GREATEST, Numbers.SIGN | Numbers.GREATEST};
        for (long good : greatest) {
            TripleSums x = new TripleSums();
            check.accepts("x " + good, () -> x.add(0, good, one, one, 1));
            check.accepts("y " + good, () -> x.add(0, one, good, one, 1));
            check.accepts("z " + good, () -> x.add(0, one, one, good, 1));
            check.same("thrice " + good, x.top(0), 1025);
        }
    }

    private static void timesOutOfRange(Check check) {
        check.sentence("Promise 3", "or times is not -1000000 .. 1000000.");
        TripleSums x = new TripleSums();
        long one = Numbers.ONE;
        x.add(0, one, one, one, 1);
        for (int times : Numbers.TOO_MANY_TIMES) {
            check.illegal("times " + times, () -> x.add(0, one, one, one, times));
            check.illegal("times " + times + " of 0", () -> x.add(0, 0L, 0L, 0L, times));
            check.same("the sum stays", Numbers.exact(x, 0), Numbers.scaled(1, 0));
        }
        for (int times : Numbers.MOST_TIMES) {
            check.accepts("times " + times, () -> x.add(1, one, one, one, times));
            check.same("times " + times, Numbers.exact(x, 1), Numbers.scaled(times, 0));
            x.clear(1);
        }
    }
}
