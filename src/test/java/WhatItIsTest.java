import java.math.BigInteger;

/** The document's first sentence; its second one is tested by FullRunsTest. */
public final class WhatItIsTest {
    private static final String WHAT =
            "Sums of products of binary numbers, held exactly, however large and small they are: "
            + "looked at, compared, scaled by whole numbers, taken from one another, and rounded once "
            + "to the nearest binary number.";

    public static void main(String[] args) {
        Check check = new Check();
        check.test(WhatItIsTest::heldExactly);
        check.test(WhatItIsTest::comparedAndScaled);
        check.test(WhatItIsTest::roundedOnce);
        check.test(WhatItIsTest::roundedOnceAmongTheSmallest);
        check.end();
    }

    /** The greatest product and the least of opposite signs: both stay to the last bit. */
    private static void heldExactly(Check check) {
        check.sentence("What it is", WHAT);
        long g = Numbers.GREATEST;
        BigInteger cube = BigInteger.valueOf((1L << 53) - 1).pow(3).shiftLeft(3 * 971 - Numbers.LOWEST);
        for (int sign = -1; sign <= 1; sign += 2) {
            TripleSums x = new TripleSums();
            x.add(0, g, g, g, 1000000 * sign);
            Numbers.addUnit(x, 0, -sign);
            BigInteger due = cube.multiply(BigInteger.valueOf(1000000)).subtract(BigInteger.ONE);
            check.same("the greatest and the least", Numbers.exact(x, 0),
                    due.multiply(BigInteger.valueOf(sign)));
            x.add(0, g, g, Numbers.SIGN | g, 1000000 * sign);
            check.same("the least alone", Numbers.exact(x, 0), BigInteger.valueOf(-sign));
        }
    }

    private static void comparedAndScaled(Check check) {
        check.sentence("What it is", WHAT);
        TripleSums x = new TripleSums();
        long tenth = Numbers.of(0.1);
        x.add(0, tenth, Numbers.ONE, Numbers.ONE, 3);
        Numbers.addNumber(x, 1, Numbers.of(0.3), 1);
        check.same("thrice 0.1 and 0.3 exactly", x.compare(0, 1), 1);
        check.same("and by size", x.compareSizes(0, 1), 1);
        x.plus(0, 1, -1);
        check.same("what thrice 0.1 is above 0.3", x.nearest(0), Numbers.power(-55));
        x.plus(0, 0, 999999);
        check.same("a million times that", Numbers.exact(x, 0), Numbers.scaled(1000000, -55));
        check.same("its highest bit", x.top(0), -36);
    }

    /** Rounded to 53 bits on the way, or to 64 as some machines do, the unit would be lost. */
    private static void roundedOnce(Check check) {
        check.sentence("What it is", WHAT);
        for (int sign = -1; sign <= 1; sign += 2) {
            long mark = Numbers.mark(sign);
            TripleSums x = new TripleSums();
            Numbers.addNumber(x, 0, Numbers.ONE, sign);
            Numbers.addPower(x, 0, -53, sign);
            check.same("half way, to the even one", x.nearest(0), mark | Numbers.ONE);
            Numbers.addUnit(x, 0, sign);
            check.same("a unit beyond half way", x.nearest(0), mark | Numbers.ONE + 1);
            Numbers.addUnit(x, 0, -2 * sign);
            check.same("a unit before half way", x.nearest(0), mark | Numbers.ONE);
            Numbers.addPower(x, 0, -52, sign);
            check.same("a unit before the next half way", x.nearest(0), mark | Numbers.ONE + 1);
            Numbers.addUnit(x, 0, sign);
            check.same("the next half way, to the even one", x.nearest(0), mark | Numbers.ONE + 2);
        }
    }

    /** Rounded to 53 bits first, this would come to half the least number, and then to 0. */
    private static void roundedOnceAmongTheSmallest(Check check) {
        check.sentence("What it is", WHAT);
        for (int sign = -1; sign <= 1; sign += 2) {
            TripleSums x = new TripleSums();
            Numbers.addPower(x, 0, -1075, sign);
            Numbers.addPower(x, 0, -1200, sign);
            check.same("above half the least number", x.nearest(0), Numbers.mark(sign) | 1L);
            Numbers.addPower(x, 0, -1074, sign);
            Numbers.addPower(x, 0, -1199, -sign);
            check.same("below half way to twice it", x.nearest(0), Numbers.mark(sign) | 1L);
        }
    }
}
