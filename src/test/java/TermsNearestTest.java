/** The document's terms, NEAREST: the one rounding. */
public final class TermsNearestTest {
    private static final long[] STEPS = {
        0L, 1L, 2L, 3L, Numbers.MOST_F - 1, Numbers.MOST_F, 1L << 52, (1L << 52) + 1, (1L << 53) - 2,
        (1L << 53) - 1, 1L << 53, (1L << 53) + 1, Numbers.of(1) - 1, Numbers.of(1), Numbers.of(1) + 1,
        Numbers.of(0.1), Numbers.of(3e-310), Numbers.of(7e250), Numbers.bits(2046, 0L),
        Numbers.GREATEST - 2, Numbers.GREATEST - 1,
    };

    public static void main(String[] args) {
        Check check = new Check();
        check.test(TermsNearestTest::theNearer);
        check.test(TermsNearestTest::theNearerByOneBit);
        check.test(TermsNearestTest::theEvenOne);
        check.test(TermsNearestTest::zero);
        check.test(TermsNearestTest::zeroWithItsSign);
        check.test(TermsNearestTest::aroundInfinite);
        check.test(TermsNearestTest::infinite);
        check.end();
    }

    /** The place of half the step from these bits to the next. */
    private static int half(long bits) {
        return Math.max((int) (bits >>> 52), 1) - 1075 - 1;
    }

    private static TripleSums halfWay(long bits, int sign) {
        TripleSums x = new TripleSums();
        Numbers.addNumber(x, 0, bits, sign);
        Numbers.addPower(x, 0, half(bits), sign);
        return x;
    }

    private static String named(long bits, int sign) {
        return "bits " + Long.toHexString(bits) + " with sign " + sign;
    }

    private static void theNearer(Check check) {
        check.sentence("Terms", "NEAREST to a sum is the finite number nearest to it");
        for (int sign = -1; sign <= 1; sign += 2) {
            long mark = Numbers.mark(sign);
            for (long bits : STEPS) {
                String what = named(bits, sign);
                TripleSums whole = new TripleSums();
                Numbers.addNumber(whole, 0, bits, sign);
                // -0 is 0: its bits are those of the sum 0.
                check.same(what, whole.nearest(0), bits == 0 ? 0L : mark | bits);
                Numbers.addUnit(whole, 0, sign);
                check.same(what + ", a unit more", whole.nearest(0), mark | bits);

                TripleSums x = halfWay(bits, sign);
                Numbers.addUnit(x, 0, -sign);
                check.same(what + ", a unit less than half way", x.nearest(0), mark | bits);
                Numbers.addUnit(x, 0, 2 * sign);
                check.same(what + ", a unit more than half way", x.nearest(0), mark | bits + 1);
                Numbers.addPower(x, 0, half(bits) - 1, -sign);
                check.same(what + ", a quarter of the way", x.nearest(0), mark | bits);
                Numbers.addPower(x, 0, half(bits), sign);
                check.same(what + ", three quarters of the way", x.nearest(0), mark | bits + 1);
            }
        }
    }

    /** Beside half way by 2^q alone, for each q there is: no bit is too low to count. */
    private static void theNearerByOneBit(Check check) {
        check.sentence("Terms", "NEAREST to a sum is the finite number nearest to it");
        long[] evens = {0L, 1L << 52, Numbers.of(1), Numbers.GREATEST - 1};
        for (long bits : evens) {
            for (int q = Numbers.LOWEST; q < half(bits); q++) {
                int sign = (q & 1) == 0 ? 1 : -1;
                String what = "half way from " + named(bits, sign);
                TripleSums above = halfWay(bits, sign);
                Numbers.addPower(above, 0, q, sign);
                long due = Numbers.mark(sign) | bits + 1;
                check.same(what + " and 2^" + q, above.nearest(0), due);
                TripleSums below = halfWay(bits + 1, sign);
                Numbers.addPower(below, 0, q, -sign);
                check.same("from one more, less 2^" + q, below.nearest(0), due);
            }
        }
    }

    private static void theEvenOne(Check check) {
        check.sentence("Terms", "of two as near the one whose F is even");
        for (int sign = -1; sign <= 1; sign += 2) {
            for (long bits : STEPS) {
                long due = Numbers.mark(sign) | bits + (bits & 1L);
                check.same("half way from " + named(bits, sign), halfWay(bits, sign).nearest(0), due);
            }
        }
    }

    private static void zero(Check check) {
        check.sentence("Terms", "for 0 it is 0 with SIGN 0");
        TripleSums x = new TripleSums();
        check.same("0 at first", x.nearest(0), 0L);
        for (int sign = -1; sign <= 1; sign += 2) {
            Numbers.addUnit(x, 0, sign);
            check.same("beside 0, sign " + sign, x.nearest(0), Numbers.mark(sign));
            Numbers.addUnit(x, 0, -sign);
            check.same("0 again, by add, sign " + sign, x.nearest(0), 0L);
            Numbers.addNumber(x, 0, Numbers.of(7), sign);
            x.plus(0, 0, -1);
            check.same("0 again, by plus, sign " + sign, x.nearest(0), 0L);
            Numbers.addNumber(x, 0, Numbers.of(7), sign);
            x.clear(0);
            check.same("0 again, by clear, sign " + sign, x.nearest(0), 0L);
        }
        Numbers.addNumber(x, 0, Numbers.SIGN, 1);
        check.same("-0", x.nearest(0), 0L);
    }

    private static void zeroWithItsSign(Check check) {
        check.sentence("Terms", "a sum whose number nearest is 0 gives 0 with its own sign");
        for (int sign = -1; sign <= 1; sign += 2) {
            long mark = Numbers.mark(sign);
            for (int p = Numbers.LOWEST; p <= -1075; p++) {
                TripleSums x = new TripleSums();
                Numbers.addPower(x, 0, p, sign);
                check.same("2^" + p + " with sign " + sign, x.nearest(0), mark);
            }
            TripleSums x = new TripleSums();
            Numbers.addPower(x, 0, -1075, sign);
            Numbers.addUnit(x, 0, -sign);
            check.same("a unit below 2^-1075 with sign " + sign, x.nearest(0), mark);
            Numbers.addUnit(x, 0, sign);
            check.same("2^-1075 with sign " + sign, x.nearest(0), mark);
            Numbers.addUnit(x, 0, sign);
            check.same("a unit above 2^-1075 with sign " + sign, x.nearest(0), mark | 1L);
        }
    }

    private static void aroundInfinite(Check check) {
        check.sentence("Terms", "if the size is (2^54 - 1) * 2^970 or more, it is INFINITE: "
                + "E 2047, F 0, and its sign.");
        for (int sign = -1; sign <= 1; sign += 2) {
            long greatest = Numbers.mark(sign) | Numbers.GREATEST;
            long infinite = Numbers.mark(sign) | 2047L << 52;
            TripleSums x = new TripleSums();
            Numbers.addPower(x, 0, 1024, sign);
            Numbers.addPower(x, 0, 970, -sign);
            String what = "(2^54 - 1) * 2^970 with sign " + sign;
            check.same(what, x.nearest(0), infinite);
            Numbers.addUnit(x, 0, sign);
            check.same(what + ", a unit more", x.nearest(0), infinite);
            Numbers.addUnit(x, 0, -2 * sign);
            check.same(what + ", a unit less", x.nearest(0), greatest);
            Numbers.addUnit(x, 0, sign);
            Numbers.addPower(x, 0, 969, -sign);
            check.same(what + ", 2^969 less", x.nearest(0), greatest);
            Numbers.addPower(x, 0, 969, -sign);
            check.same("the greatest with sign " + sign, x.nearest(0), greatest);
            Numbers.addPower(x, 0, 971, sign);
            check.same("2^1024 with sign " + sign, x.nearest(0), infinite);
            Numbers.addUnit(x, 0, sign);
            check.same("2^1024 and a unit with sign " + sign, x.nearest(0), infinite);
            Numbers.addUnit(x, 0, -2 * sign);
            check.same("2^1024 less a unit with sign " + sign, x.nearest(0), infinite);
        }
    }

    private static void infinite(Check check) {
        check.sentence("Terms", "if the size is (2^54 - 1) * 2^970 or more, it is INFINITE: "
                + "E 2047, F 0, and its sign.");
        for (int sign = -1; sign <= 1; sign += 2) {
            long due = Numbers.mark(sign) | 2047L << 52;
            for (int p = 1024; p <= 3069; p++) {
                TripleSums x = new TripleSums();
                Numbers.addPower(x, 0, p, sign);
                check.same("2^" + p + " with sign " + sign, x.nearest(0), due);
            }
            for (int p = 1024; p <= 3068; p++) {
                TripleSums x = new TripleSums();
                Numbers.addPower(x, 0, p + 1, sign);
                Numbers.addUnit(x, 0, -sign);
                check.same("2^" + (p + 1) + " less a unit, sign " + sign, x.nearest(0), due);
                Numbers.addPower(x, 1, p, 3 * sign);
                check.same("2^" + p + " * 3, sign " + sign, x.nearest(1), due);
            }
            TripleSums x = new TripleSums();
            Numbers.addNumber(x, 1, Numbers.GREATEST, 2 * sign);
            check.same("twice the greatest with sign " + sign, x.nearest(1), due);
            Numbers.makeMost(x, 0, sign);
            check.same("2^3150 less a unit with sign " + sign, x.nearest(0), due);
            Numbers.addUnit(x, 0, sign);
            check.same("2^3150 with sign " + sign, x.nearest(0), due);
        }
    }
}
