/** Promise 11, bit. */
public final class Promise11BitTest {
    private static final String BIT_P = "Bit p of a sum.";
    private static final int[] FAR = {
        Integer.MIN_VALUE, Integer.MIN_VALUE + 1, Integer.MIN_VALUE + 3221, Integer.MIN_VALUE + 3222,
        Integer.MIN_VALUE + 3223, -1000000, -100000, -3286, -3224, -3223, 3150, 3151, 3177, 3178, 3179,
        100000, Integer.MAX_VALUE - 3223, Integer.MAX_VALUE - 3222, Integer.MAX_VALUE - 3221,
        Integer.MAX_VALUE - 1, Integer.MAX_VALUE,
    };

    public static void main(String[] args) {
        Check check = new Check();
        check.test(Promise11BitTest::aroundOneBit);
        check.test(Promise11BitTest::ofMixedSums);
        check.test(Promise11BitTest::ofAllOnes);
        check.test(Promise11BitTest::ofZero);
        check.test(Promise11BitTest::forAnyP);
        check.test(Promise11BitTest::noSuchSum);
        check.end();
    }

    private static void aroundOneBit(Check check) {
        check.sentence("Promise 11", BIT_P);
        for (int p = Numbers.LOWEST; p <= 3069; p += 31) {
            for (int sign = -1; sign <= 1; sign += 2) {
                TripleSums x = new TripleSums();
                Numbers.addPower(x, 1, p, sign);
                for (int q = p - 70; q <= p + 70; q++) {
                    String what = "bit " + q + " of 2^" + p + " with sign " + sign;
                    check.same(what, x.bit(1, q), q == p);
                }
            }
        }
    }

    private static void ofMixedSums(Check check) {
        check.sentence("Promise 11", BIT_P);
        TripleSums x = new TripleSums();
        x.add(0, Numbers.of(-10.5), Numbers.ONE, Numbers.ONE, 1);
        int[] ones = {3, 1, -1};
        for (int p = -5; p <= 5; p++) {
            boolean due = false;
            for (int one : ones) {
                due |= one == p;
            }
            check.same("bit " + p + " of -10.5", x.bit(0, p), due);
        }
    }

    private static void ofAllOnes(Check check) {
        check.sentence("Promise 11", BIT_P);
        for (int from = -3300; from < 3300; from += 300) {
            for (int sign = -1; sign <= 1; sign += 2) {
                TripleSums x = new TripleSums();
                Numbers.makeMost(x, 2, sign);
                for (int p = from; p < from + 300; p++) {
                    boolean due = p >= Numbers.LOWEST && p <= 3149;
                    String what = "bit " + p + " of a unit less than 2^3150 with sign " + sign;
                    check.same(what, x.bit(2, p), due);
                }
            }
        }
    }

    private static void ofZero(Check check) {
        check.sentence("Promise 11", BIT_P);
        TripleSums x = new TripleSums();
        for (int p = -3250; p <= 3200; p += 25) {
            check.same("bit " + p + " of 0", x.bit(6, p), false);
        }
    }

    private static void forAnyP(Check check) {
        check.sentence("Promise 11", "Likewise (for any p).");
        for (int sign = -1; sign <= 1; sign += 2) {
            TripleSums x = new TripleSums();
            Numbers.makeMost(x, 0, sign);
            check.same("the lowest bit", x.bit(0, -3222), true);
            check.same("the highest bit", x.bit(0, 3149), true);
            for (int p : FAR) {
                check.same("bit " + p + " of ones", x.bit(0, p), false);
                check.same("bit " + p + " of 0", x.bit(1, p), false);
            }
            for (int high = 13; high < 32; high++) {
                int p = 1 << high;
                check.same("bit " + p, x.bit(0, p), false);
                check.same("bit -" + p, x.bit(0, -p), false);
            }
            Numbers.addUnit(x, 0, sign);
            check.same("bit 3150 of 2^3150", x.bit(0, 3150), true);
        }
    }

    private static void noSuchSum(Check check) {
        check.sentence("Promise 11", "Likewise (for any p).");
        TripleSums x = new TripleSums();
        for (int s : Numbers.NO_SUMS) {
            check.noSuchSum("bit(" + s + ", 0)", () -> x.bit(s, 0));
            for (int p : FAR) {
                check.noSuchSum("bit(" + s + ", " + p + ")", () -> x.bit(s, p));
            }
        }
        for (int s = 0; s < 8; s++) {
            int sum = s;
            for (int p : FAR) {
                check.accepts("bit(" + s + ", " + p + ")", () -> x.bit(sum, p));
            }
        }
    }
}
