import java.math.BigInteger;

/** Promise 4, plus. */
public final class Promise04PlusTest {
    private static final String MORE = "A sum becomes more by times what another one is";
    private static final String TOO_LARGE = "IllegalStateException when its size would be 2^3150 or more";

    public static void main(String[] args) {
        Check check = new Check();
        check.test(Promise04PlusTest::ordinary);
        check.test(Promise04PlusTest::wideSums);
        check.test(Promise04PlusTest::ofItself);
        check.test(Promise04PlusTest::noSuchSums);
        check.test(Promise04PlusTest::timesOutOfRange);
        check.test(Promise04PlusTest::aroundTheLimit);
        check.test(Promise04PlusTest::farBeyondTheLimit);
        check.test(Promise04PlusTest::fromBeyondTheLimit);
        check.test(Promise04PlusTest::itStays);
        check.end();
    }

    private static void ordinary(Check check) {
        check.sentence("Promise 4", MORE);
        TripleSums x = new TripleSums();
        x.add(0, Numbers.of(3), Numbers.ONE, Numbers.ONE, 1);
        x.add(1, Numbers.of(-0.5), Numbers.ONE, Numbers.ONE, 1);
        x.plus(0, 1, 4);
        check.same("3 + 4 * -0.5", Numbers.exact(x, 0), Numbers.scaled(1, 0));
        check.same("the other stays", Numbers.exact(x, 1), Numbers.scaled(-1, -1));
        x.plus(0, 1, -4);
        check.same("1 - 4 * -0.5", Numbers.exact(x, 0), Numbers.scaled(3, 0));
        x.plus(0, 1, 0);
        check.same("3 + 0 * -0.5", Numbers.exact(x, 0), Numbers.scaled(3, 0));
        x.plus(0, 1, 1000000);
        check.same("3 - 500000", Numbers.exact(x, 0), Numbers.scaled(-499997, 0));
        x.plus(0, 1, -1000000);
        check.same("back to 3", Numbers.exact(x, 0), Numbers.scaled(3, 0));
        x.plus(2, 3, 1000000);
        check.same("0 + 0", Numbers.exact(x, 2), BigInteger.ZERO);
        for (int s = 4; s < 8; s++) {
            check.same("sum " + s + " stays", x.sign(s), 0);
        }
    }

    private static void wideSums(Check check) {
        check.sentence("Promise 4", MORE);
        TripleSums x = new TripleSums();
        Numbers.addPower(x, 0, 3069, 1);
        Numbers.addUnit(x, 0, -1);
        BigInteger wide = Numbers.scaled(1, 3069).subtract(BigInteger.ONE);
        x.plus(1, 0, 999983);
        check.same("times all ones", Numbers.exact(x, 1), wide.multiply(BigInteger.valueOf(999983)));
        x.plus(1, 0, -1000000);
        check.same("down below 0", Numbers.exact(x, 1), wide.multiply(BigInteger.valueOf(-17)));
        x.plus(1, 0, 17);
        check.same("up to 0", x.sign(1), 0);
    }

    private static void ofItself(Check check) {
        check.sentence("Promise 4", "(or the same one)");
        int[] manyTimes = {-1000000, -999999, -3, -2, -1, 0, 1, 2, 999999, 1000000};
        for (int s = 0; s < 8; s++) {
            for (int times : manyTimes) {
                TripleSums x = new TripleSums();
                int sum = s;
                Numbers.addNumber(x, s, Numbers.of(-21), 1);
                Numbers.addUnit(x, s, 1);
                BigInteger due = Numbers.scaled(-21, 0).add(BigInteger.ONE)
                        .multiply(BigInteger.valueOf(1L + times));
                check.accepts("plus(" + s + ", " + s + ", " + times + ")", () -> x.plus(sum, sum, times));
                check.same("1 and " + times + " times itself", Numbers.exact(x, s), due);
            }
        }
        for (int sign = -1; sign <= 1; sign += 2) {
            TripleSums x = new TripleSums();
            Numbers.makeMost(x, 5, sign);
            x.plus(5, 5, -2);
            check.same("the most turned over", Numbers.exact(x, 5), Numbers.most(-sign));
            x.plus(5, 5, -1);
            check.same("taken from itself", Numbers.exact(x, 5), BigInteger.ZERO);
            check.same("nearest when taken from itself", x.nearest(5), 0L);
        }
    }

    private static void noSuchSums(Check check) {
        check.sentence("Promise 4", "IndexOutOfBoundsException when there are no such sums");
        TripleSums x = new TripleSums();
        Numbers.makeHalfLimit(x, 0, 1);
        for (int s : Numbers.NO_SUMS) {
            check.noSuchSum("plus(" + s + ", 0, 1)", () -> x.plus(s, 0, 1));
            check.noSuchSum("plus(0, " + s + ", 1)", () -> x.plus(0, s, 1));
            check.noSuchSum("plus(" + s + ", " + s + ", 1)", () -> x.plus(s, s, 1));
            check.noSuchSum("plus(" + s + ", 0, 0)", () -> x.plus(s, 0, 0));
            check.noSuchSum("plus(0, " + s + ", 0)", () -> x.plus(0, s, 0));
            // Where two of the exceptions fit, the first that the document lists is thrown.
            check.noSuchSum("plus(" + s + ", 0, too many)", () -> x.plus(s, 0, 1000001));
            check.noSuchSum("plus(0, " + s + ", too many)", () -> x.plus(0, s, 1000001));
        }
        check.same("it stays", Numbers.exact(x, 0), Numbers.scaled(1, 3149));
        TripleSums zeros = new TripleSums();
        for (int s = 0; s < 8; s++) {
            for (int other = 0; other < 8; other++) {
                int sum = s;
                int added = other;
                check.accepts("plus(" + s + ", " + other + ", 1)", () -> zeros.plus(sum, added, 1));
            }
        }
    }

    private static void timesOutOfRange(Check check) {
        check.sentence("Promise 4", "IllegalArgumentException when times is not -1000000 .. 1000000");
        TripleSums x = new TripleSums();
        Numbers.makeHalfLimit(x, 0, 1);
        Numbers.addNumber(x, 1, Numbers.of(3), 1);
        for (int times : Numbers.TOO_MANY_TIMES) {
            check.illegal("times " + times + " of 3", () -> x.plus(2, 1, times));
            check.illegal("times " + times + " of 0", () -> x.plus(1, 3, times));
            check.illegal("times " + times + " of itself", () -> x.plus(1, 1, times));
            // Where two of the exceptions fit, the first that the document lists is thrown.
            check.illegal("times " + times + " of 2^3149", () -> x.plus(0, 0, times));
        }
        check.same("2^3149 stays", Numbers.exact(x, 0), Numbers.scaled(1, 3149));
        check.same("3 stays", Numbers.exact(x, 1), Numbers.scaled(3, 0));
        check.same("0 stays", x.sign(2), 0);
        for (int times : Numbers.MOST_TIMES) {
            check.accepts("times " + times, () -> x.plus(2, 1, times));
            check.same("times " + times, Numbers.exact(x, 2), Numbers.scaled(3L * times, 0));
            x.clear(2);
        }
    }

    /** Sum 0 is 2^3149; sum 1 comes to one unit below 2^3150, to it, and to one unit above. */
    private static void aroundTheLimit(Check check) {
        check.sentence("Promise 4", TOO_LARGE);
        for (int sign = -1; sign <= 1; sign += 2) {
            int same = sign;
            for (int units = -2; units <= 2; units++) {
                TripleSums x = new TripleSums();
                Numbers.makeHalfLimit(x, 0, sign);
                Numbers.addUnit(x, 1, units * sign);
                String what = "2^3150 and " + units + " units, sign " + sign;
                BigInteger due = Numbers.scaled(sign, 3150).add(BigInteger.valueOf(units * sign));
                if (units < 0) {
                    check.accepts(what, () -> x.plus(1, 0, 2));
                    check.same(what, Numbers.exact(x, 1), due);
                } else {
                    check.tooLarge(what, () -> x.plus(1, 0, 2));
                    check.same(what + ": it stays", Numbers.exact(x, 1), BigInteger.valueOf(units * sign));
                }
            }
            TripleSums x = new TripleSums();
            Numbers.makeMost(x, 1, sign);
            Numbers.addUnit(x, 2, 1);
            check.tooLarge("one unit more, sign " + sign, () -> x.plus(1, 2, same));
            check.accepts("nothing more, sign " + sign, () -> x.plus(1, 3, 1000000));
            check.accepts("0 times itself, sign " + sign, () -> x.plus(1, 1, 0));
            check.same("with nothing more", Numbers.exact(x, 1), Numbers.most(sign));
            check.accepts("one unit less, sign " + sign, () -> x.plus(1, 2, -same));
            check.accepts("the unit again, sign " + sign, () -> x.plus(1, 2, same));
            check.same("with the unit again", Numbers.exact(x, 1), Numbers.most(sign));
        }
    }

    private static void farBeyondTheLimit(Check check) {
        check.sentence("Promise 4", TOO_LARGE);
        for (int sign = -1; sign <= 1; sign += 2) {
            TripleSums x = new TripleSums();
            Numbers.makeHalfLimit(x, 0, sign);
            Numbers.makeMost(x, 2, 1);
            for (int times = 1; times <= 1 << 19; times *= 2) {
                int many = times + (times >> 1) + 2;
                check.tooLarge("2^3150 * " + many, () -> x.plus(0, 2, many));
                check.tooLarge("2^3150 * -" + many, () -> x.plus(0, 2, -many));
            }
            check.tooLarge("2^3150 * 1000000", () -> x.plus(0, 2, 1000000));
            check.tooLarge("2^3150 * -1000000", () -> x.plus(0, 2, -1000000));
            check.tooLarge("2^3150 * 1000001", () -> x.plus(2, 2, 1000000));
            check.tooLarge("2^3149 * 1000001", () -> x.plus(0, 0, 1000000));
            check.tooLarge("2^3149 * -999999", () -> x.plus(0, 0, -1000000));
            check.same("it stays", Numbers.exact(x, 0), Numbers.scaled(sign, 3149));
        }
    }

    /** Only add goes beyond the limit; plus then answers by what its sum would be. */
    private static void fromBeyondTheLimit(Check check) {
        check.sentence("Promise 4", TOO_LARGE);
        for (int sign = -1; sign <= 1; sign += 2) {
            int opposite = -sign;
            TripleSums x = new TripleSums();
            Numbers.makeMost(x, 0, sign);
            Numbers.addUnit(x, 0, sign);
            Numbers.addUnit(x, 1, 1);
            check.same("at the limit", Numbers.exact(x, 0), Numbers.scaled(sign, 3150));
            check.tooLarge("would still be at it", () -> x.plus(0, 2, 1));
            check.tooLarge("would still be at it, 0 times", () -> x.plus(0, 0, 0));
            check.tooLarge("turned over", () -> x.plus(0, 0, -2));
            check.tooLarge("another would be at it", () -> x.plus(2, 0, 1));
            check.same("it stays", Numbers.exact(x, 0), Numbers.scaled(sign, 3150));
            check.same("the other stays", x.sign(2), 0);
            check.accepts("one unit less", () -> x.plus(0, 1, opposite));
            check.same("below it again", Numbers.exact(x, 0), Numbers.most(sign));

            Numbers.addPower(x, 0, 3069, sign);
            check.tooLarge("beyond it by more than a unit", () -> x.plus(0, 1, opposite));
            check.accepts("back by what it is beyond", () -> x.plus(0, 0, -1));
            check.same("back at 0", x.sign(0), 0);
        }
    }

    private static void itStays(Check check) {
        check.sentence("Promise 4", ": it stays.");
        for (int sign = -1; sign <= 1; sign += 2) {
            TripleSums x = new TripleSums();
            Numbers.makeHalfLimit(x, 0, sign);
            BigInteger half = Numbers.scaled(sign, 3149);
            check.same("half the limit", Numbers.exact(x, 0), half);
            check.tooLarge("itself to the limit, sign " + sign, () -> x.plus(0, 0, 1));
            check.same("it stays", Numbers.exact(x, 0), half);
            check.tooLarge("over to the limit, sign " + sign, () -> x.plus(0, 0, -3));
            check.same("it stays again", Numbers.exact(x, 0), half);
            check.tooLarge("another to the limit, sign " + sign, () -> x.plus(1, 0, 2));
            check.same("the other stays 0", Numbers.exact(x, 1), BigInteger.ZERO);
            check.same("the one added stays", Numbers.exact(x, 0), half);
            Numbers.addNumber(x, 1, Numbers.of(-2.5), 1);
            check.tooLarge("-2.5 far beyond the limit, sign " + sign, () -> x.plus(1, 0, -1000000));
            check.same("-2.5 stays", Numbers.exact(x, 1), Numbers.scaled(-5, -1));
            x.plus(1, 1, 1);
            check.same("and is used as before", x.nearest(1), Numbers.of(-5));
        }
    }
}
