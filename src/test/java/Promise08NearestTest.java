/** nearest: rounded once, to even between two, to the infinite one from (2^54 - 1) * 2^970 on. */
public final class Promise08NearestTest {
    private static final long[] KEPT = {
        0L, Numbers.SIGN | 1L, 1L, (1L << 52) - 1, 1L << 52, (1L << 52) + 1, (1L << 53) - 1, 1L << 53,
        Numbers.of(1), Numbers.of(-1), Numbers.of(0.1), Numbers.of(1e300), Numbers.GREATEST - 1,
        Numbers.GREATEST, Numbers.SIGN | Numbers.GREATEST,
    };
    private static final long[] BELOW_A_STEP = {
        0L, 1L, 2L, (1L << 52) - 2, (1L << 52) - 1, 1L << 52, (1L << 52) + 1, (1L << 53) - 2,
        (1L << 53) - 1, 1L << 53, Numbers.of(1), Numbers.of(1) - 1, Numbers.of(1) + 1,
        Numbers.of(0.1), Numbers.of(3e-310), Numbers.of(7e250), Numbers.GREATEST - 1, Numbers.GREATEST,
    };

    public static void main(String[] args) {
        Check check = new Check();
        finiteNumbersAreKept(check);
        for (long bits : BELOW_A_STEP) {
            for (int sign = -1; sign <= 1; sign += 2) {
                halfWayUp(check, bits, sign);
            }
        }
        zeros(check);
        infinite(check);
        refusals(check);
        check.end();
    }

    private static void finiteNumbersAreKept(Check check) {
        for (long bits : KEPT) {
            TripleSums x = new TripleSums();
            x.add(6, bits, Numbers.ONE, Numbers.ONE, 1);
            check.same("nearest to bits " + bits, x.nearest(6), bits);
        }
    }

    private static void halfWayUp(Check check, long bits, int sign) {
        long mark = sign < 0 ? Numbers.SIGN : 0L;
        String what = "half above bits " + bits + " with sign " + sign;
        TripleSums x = new TripleSums();
        x.add(0, bits, Numbers.ONE, Numbers.ONE, sign);
        int half = Math.max((int) (bits >>> 52), 1) - 1075 - 1;
        Numbers.addPower(x, 0, half, sign);
        check.same(what, x.nearest(0), mark | bits + (bits & 1));
        Numbers.addPower(x, 0, Numbers.LOWEST, -sign);
        check.same(what + ", a unit less", x.nearest(0), mark | bits);
        Numbers.addPower(x, 0, Numbers.LOWEST, 2 * sign);
        check.same(what + ", a unit more", x.nearest(0), mark | bits + 1);
        Numbers.addPower(x, 0, half - 1, -sign);
        check.same(what + ", a quarter less", x.nearest(0), mark | bits);
        Numbers.addPower(x, 0, half, sign);
        check.same(what + ", a quarter more", x.nearest(0), mark | bits + 1);
    }

    private static void zeros(Check check) {
        TripleSums x = new TripleSums();
        check.same("nearest to 0", x.nearest(0), 0L);
        x.add(0, Numbers.SIGN, Numbers.ONE, Numbers.ONE, 1);
        check.same("nearest to -0", x.nearest(0), 0L);
        Numbers.addPower(x, 1, Numbers.LOWEST, 1);
        check.same("nearest to a unit above 0", x.nearest(1), 0L);
        Numbers.addPower(x, 2, Numbers.LOWEST, -1);
        check.same("nearest to a unit below 0", x.nearest(2), Numbers.SIGN);
        Numbers.addPower(x, 3, -1075, -1);
        check.same("nearest to half the smallest below 0", x.nearest(3), Numbers.SIGN);
        Numbers.addPower(x, 3, -1075, 1);
        check.same("nearest to 0 again", x.nearest(3), 0L);
    }

    private static void infinite(Check check) {
        for (int sign = -1; sign <= 1; sign += 2) {
            long due = (sign < 0 ? Numbers.SIGN : 0L) | Numbers.INFINITE;
            for (int p = 1024; p <= 3069; p++) {
                TripleSums x = new TripleSums();
                Numbers.addPower(x, 0, p, sign);
                check.same("2^" + p + " with sign " + sign, x.nearest(0), due);
            }
            TripleSums x = new TripleSums();
            x.add(1, Numbers.GREATEST, Numbers.of(2), Numbers.ONE, sign);
            check.same("twice the greatest with sign " + sign, x.nearest(1), due);
            Numbers.makeHalfLimit(x, 0, sign);
            check.same("2^3149 with sign " + sign, x.nearest(0), due);
        }
    }

    private static void refusals(Check check) {
        TripleSums x = new TripleSums();
        for (int s : Numbers.NO_SUMS) {
            check.noSuchSum("nearest(" + s + ")", () -> x.nearest(s));
        }
    }
}
