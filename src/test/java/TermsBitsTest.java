import java.math.BigInteger;

/** The document's terms, BITS: what number a long tells. */
public final class TermsBitsTest {
    private static final int[] EXPONENTS = {1, 2, 3, 1022, 1023, 1024, 2045, 2046};
    private static final long[] FRACTIONS = {0L, 1L, 2L, 1L << 51, Numbers.MOST_F - 1, Numbers.MOST_F};

    public static void main(String[] args) {
        Check check = new Check();
        check.test(TermsBitsTest::whereItsPartsStand);
        check.test(TermsBitsTest::fromExponentOneOn);
        check.test(TermsBitsTest::exponentZero);
        check.test(TermsBitsTest::belowZero);
        check.test(TermsBitsTest::minusZero);
        check.test(TermsBitsTest::exponent2047);
        check.end();
    }

    /** The number as the first, the second and the third factor. */
    private static void tells(Check check, long bits, BigInteger due) {
        long one = Numbers.ONE;
        for (int factor = 1; factor <= 3; factor++) {
            TripleSums x = new TripleSums();
            x.add(0, factor == 1 ? bits : one, factor == 2 ? bits : one, factor == 3 ? bits : one, 1);
            String what = "bits " + Long.toHexString(bits) + " as factor " + factor;
            check.same(what, Numbers.exact(x, 0), due);
        }
    }

    private static void whereItsPartsStand(Check check) {
        check.sentence("Terms", "a finite number is told by a long: its highest bit is the SIGN, "
                + "eleven bits are E, 0 to 2046, the lowest 52 are F.");
        tells(check, 1L << 63 | Numbers.ONE, Numbers.scaled(-1, 0));
        tells(check, Numbers.bits(0, 0L), BigInteger.ZERO);
        for (int e = 1; e <= 2046; e++) {
            tells(check, (long) e << 52, Numbers.scaled(1, e - 1023));
        }
        for (int k = 0; k < 52; k++) {
            tells(check, Numbers.ONE | 1L << k, Numbers.scaled((1L << 52) + (1L << k), -52));
        }
    }

    private static void fromExponentOneOn(Check check) {
        check.sentence("Terms", "With E from 1 on it is (2^52 + F) * 2^(E - 1075)");
        for (int e : EXPONENTS) {
            for (long f : FRACTIONS) {
                tells(check, Numbers.bits(e, f), Numbers.scaled((1L << 52) + f, e - 1075));
            }
        }
    }

    private static void exponentZero(Check check) {
        check.sentence("Terms", "with E 0 it is F * 2^-1074");
        for (long f : FRACTIONS) {
            tells(check, Numbers.bits(0, f), Numbers.scaled(f, -1074));
        }
        TripleSums x = new TripleSums();
        Numbers.addNumber(x, 0, Numbers.bits(1, 0L), 1);
        Numbers.addNumber(x, 0, Numbers.bits(0, Numbers.MOST_F), -1);
        check.same("from the last with E 0 to the first with E 1",
                Numbers.exact(x, 0), Numbers.scaled(1, -1074));
    }

    private static void belowZero(Check check) {
        check.sentence("Terms", "below 0 (or -0, which is 0), if SIGN is 1.");
        for (int e : EXPONENTS) {
            for (long f : FRACTIONS) {
                BigInteger due = Numbers.scaled(-(1L << 52) - f, e - 1075);
                tells(check, Numbers.SIGN | Numbers.bits(e, f), due);
            }
        }
        for (long f : FRACTIONS) {
            tells(check, Numbers.SIGN | f, Numbers.scaled(-f, -1074));
        }
    }

    private static void minusZero(Check check) {
        check.sentence("Terms", "below 0 (or -0, which is 0), if SIGN is 1.");
        long[] others = {0L, Numbers.SIGN, 1L, Numbers.of(-1), Numbers.GREATEST};
        for (long other : others) {
            for (int times = -1; times <= 1; times++) {
                TripleSums x = new TripleSums();
                x.add(0, Numbers.SIGN, other, Numbers.ONE, times);
                String what = "-0 * bits " + Long.toHexString(other) + " * " + times;
                check.same("sign of " + what, x.sign(0), 0);
                check.same("nearest to " + what, x.nearest(0), 0L);
                check.same("top of " + what, x.top(0), TripleSums.NONE);
                check.same("compare with 0 of " + what, x.compare(0, 1), 0);
                Numbers.addNumber(x, 1, Numbers.of(-5), 1);
                x.add(1, other, Numbers.SIGN, Numbers.ONE, times);
                check.same("-5 with " + what, Numbers.exact(x, 1), Numbers.scaled(-5, 0));
            }
        }
    }

    private static void exponent2047(Check check) {
        check.sentence("Terms", "Bits with E 2047 are no finite number.");
        long one = Numbers.ONE;
        for (long bad : Numbers.NOT_FINITE) {
            TripleSums x = new TripleSums();
            String what = "bits " + Long.toHexString(bad);
            check.illegal(what + " as x", () -> x.add(0, bad, one, one, 1));
            check.illegal(what + " as y", () -> x.add(0, one, bad, one, 1));
            check.illegal(what + " as z", () -> x.add(0, one, one, bad, 1));
        }
        long[] goodBeside = {
            Numbers.INFINITE - 1, Numbers.SIGN, Numbers.SIGN | Numbers.INFINITE - 1, 0L, Numbers.bits(2046, 0L),
        };
        for (long good : goodBeside) {
            TripleSums x = new TripleSums();
            String what = "bits " + Long.toHexString(good);
            check.accepts(what + " as x", () -> x.add(0, good, one, one, 1));
            check.accepts(what + " as y", () -> x.add(0, one, good, one, 1));
            check.accepts(what + " as z", () -> x.add(0, one, one, good, 1));
        }
    }
}
