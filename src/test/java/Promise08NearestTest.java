/** Promise 8, nearest; what is nearest, the terms' sentences tell: see TermsNearestTest. */
public final class Promise08NearestTest {
    private static final String BITS = "The bits of the nearest number.";
    private static final long[] KEPT = {
        0L, Numbers.SIGN | 1L, 1L, Numbers.MOST_F, 1L << 52, (1L << 52) + 1, (1L << 53) - 1, 1L << 53,
        Numbers.of(1), Numbers.of(-1), Numbers.of(0.1), Numbers.of(1e300), Numbers.GREATEST - 1,
        Numbers.GREATEST, Numbers.SIGN | Numbers.GREATEST,
    };
    private static final long[] BELOW_A_STEP = {
        0L, 1L, 2L, Numbers.MOST_F - 1, Numbers.MOST_F, 1L << 52, (1L << 52) + 1, (1L << 53) - 2,
        (1L << 53) - 1, 1L << 53, Numbers.of(1), Numbers.of(1) - 1, Numbers.of(1) + 1,
        Numbers.of(0.1), Numbers.of(3e-310), Numbers.of(7e250), Numbers.GREATEST - 1, Numbers.GREATEST,
    };

    public static void main(String[] args) {
        Check check = new Check();
        check.test(Promise08NearestTest::finiteNumbersAreKept);
        check.test(Promise08NearestTest::everyExponentIsKept);
        check.test(Promise08NearestTest::halfWayUp);
        check.test(Promise08NearestTest::twiceTheGreatest);
        check.test(Promise08NearestTest::itChangesNothing);
        check.test(Promise08NearestTest::noSuchSum);
        check.end();
    }

    private static void finiteNumbersAreKept(Check check) {
        check.sentence("Promise 8", BITS);
        for (long bits : KEPT) {
            for (int s = 0; s < 8; s++) {
                TripleSums x = new TripleSums();
                Numbers.addNumber(x, s, bits, 1);
                check.same("nearest to bits " + bits, x.nearest(s), bits);
            }
        }
    }

    private static void everyExponentIsKept(Check check) {
        check.sentence("Promise 8", BITS);
        for (int e = 0; e <= 2046; e++) {
            long[] fractions = {1L, Numbers.MOST_F};
            for (long f : fractions) {
                long bits = Numbers.bits(e, f);
                TripleSums x = new TripleSums();
                Numbers.addNumber(x, 0, bits, 1);
                Numbers.addNumber(x, 1, bits, -1);
                check.same("E " + e + ", F " + f, x.nearest(0), bits);
                check.same("E " + e + ", F " + f + ", SIGN", x.nearest(1), Numbers.SIGN | bits);
            }
        }
    }

    /** The greatest among them has no finite number above it: INFINITE stands there. */
    private static void halfWayUp(Check check) {
        check.sentence("Promise 8", BITS);
        for (int sign = -1; sign <= 1; sign += 2) {
            long mark = Numbers.mark(sign);
            for (long bits : BELOW_A_STEP) {
                String what = "half above bits " + bits + " with sign " + sign;
                TripleSums x = new TripleSums();
                Numbers.addNumber(x, 0, bits, sign);
                int half = Math.max((int) (bits >>> 52), 1) - 1075 - 1;
                Numbers.addPower(x, 0, half, sign);
                check.same(what, x.nearest(0), mark | bits + (bits & 1));
                Numbers.addUnit(x, 0, -sign);
                check.same(what + ", a unit less", x.nearest(0), mark | bits);
                Numbers.addUnit(x, 0, 2 * sign);
                check.same(what + ", a unit more", x.nearest(0), mark | bits + 1);
                Numbers.addPower(x, 0, half - 1, -sign);
                check.same(what + ", a quarter less", x.nearest(0), mark | bits);
                Numbers.addPower(x, 0, half, sign);
                check.same(what + ", a quarter more", x.nearest(0), mark | bits + 1);
            }
        }
    }

    private static void twiceTheGreatest(Check check) {
        check.sentence("Promise 8", BITS);
        for (int sign = -1; sign <= 1; sign += 2) {
            TripleSums x = new TripleSums();
            Numbers.addNumber(x, 1, Numbers.GREATEST, 2 * sign);
            long due = Numbers.mark(sign) | Numbers.INFINITE;
            check.same("twice the greatest with sign " + sign, x.nearest(1), due);
        }
    }

    private static void itChangesNothing(Check check) {
        check.sentence("Promise 8", BITS);
        TripleSums x = new TripleSums();
        Numbers.makeMost(x, 0, -1);
        check.same("the most", x.nearest(0), Numbers.SIGN | Numbers.INFINITE);
        check.same("the most after it", Numbers.exact(x, 0), Numbers.most(-1));
        check.same("the most once more", x.nearest(0), Numbers.SIGN | Numbers.INFINITE);
    }

    private static void noSuchSum(Check check) {
        check.sentence("Promise 8", "IndexOutOfBoundsException when there is no such sum.");
        TripleSums x = new TripleSums();
        for (int s : Numbers.NO_SUMS) {
            check.noSuchSum("nearest(" + s + ")", () -> x.nearest(s));
        }
        for (int s = 0; s < 8; s++) {
            int sum = s;
            check.accepts("nearest(" + s + ")", () -> x.nearest(sum));
        }
    }
}
