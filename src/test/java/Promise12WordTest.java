/** Promise 12, word. */
public final class Promise12WordTest {
    private static final String BITS = "The 64 bits from p on, the lowest first: bit p as the long's bit 0.";
    private static final int[] FAR = {
        Integer.MIN_VALUE, Integer.MIN_VALUE + 63, Integer.MIN_VALUE + 64, Integer.MIN_VALUE + 3158,
        Integer.MIN_VALUE + 3222, -1000000, -100000, -3287, -3286, 3150, 3178, 100000,
        Integer.MAX_VALUE - 3286, Integer.MAX_VALUE - 3222, Integer.MAX_VALUE - 3221,
        Integer.MAX_VALUE - 64, Integer.MAX_VALUE - 63, Integer.MAX_VALUE,
    };

    public static void main(String[] args) {
        Check check = new Check();
        check.test(Promise12WordTest::slides);
        check.test(Promise12WordTest::oneBit);
        check.test(Promise12WordTest::ofAllOnes);
        check.test(Promise12WordTest::atTheEnds);
        check.test(Promise12WordTest::forAnyP);
        check.test(Promise12WordTest::noSuchSum);
        check.end();
    }

    /** 0b1011 * 2^-2 is seen from everywhere around it. */
    private static void slides(Check check) {
        check.sentence("Promise 12", BITS);
        for (int sign = -1; sign <= 1; sign += 2) {
            TripleSums x = new TripleSums();
            x.add(3, Numbers.of(2.75), Numbers.ONE, Numbers.ONE, sign);
            for (int p = -80; p <= 20; p++) {
                int up = -2 - p;
                long due = up >= 64 ? 0L : up >= 0 ? 11L << up : -up >= 64 ? 0L : 11L >>> -up;
                check.same("word(3, " + p + ") with sign " + sign, x.word(3, p), due);
            }
        }
    }

    private static void oneBit(Check check) {
        check.sentence("Promise 12", BITS);
        for (int p = Numbers.LOWEST; p <= 3069; p++) {
            TripleSums x = new TripleSums();
            Numbers.addPower(x, 0, p, (p & 1) == 0 ? 1 : -1);
            check.same("2^" + p + " from one above", x.word(0, p + 1), 0L);
            check.same("2^" + p + " from there", x.word(0, p), 1L);
            check.same("2^" + p + " from one below", x.word(0, p - 1), 2L);
            check.same("2^" + p + " from 63 below", x.word(0, p - 63), Long.MIN_VALUE);
            check.same("2^" + p + " from 64 below", x.word(0, p - 64), 0L);
        }
    }

    private static void ofAllOnes(Check check) {
        check.sentence("Promise 12", BITS);
        for (int sign = -1; sign <= 1; sign += 2) {
            for (int from = -3300; from < 3300; from += 300) {
                TripleSums x = new TripleSums();
                Numbers.makeMost(x, 0, sign);
                for (int p = from; p < from + 300; p++) {
                    String what = "word(0, " + p + ") of ones with sign " + sign;
                    check.same(what, x.word(0, p), onesFrom(p));
                }
            }
        }
    }

    private static long onesFrom(int p) {
        long ones = 0L;
        for (int j = 0; j < 64; j++) {
            if (p + j >= Numbers.LOWEST && p + j <= 3149) {
                ones |= 1L << j;
            }
        }
        return ones;
    }

    private static void atTheEnds(Check check) {
        check.sentence("Promise 12", BITS);
        for (int sign = -1; sign <= 1; sign += 2) {
            TripleSums x = new TripleSums();
            Numbers.makeMost(x, 0, sign);
            check.same("below all bits", x.word(0, -3286), 0L);
            check.same("the lowest bit alone", x.word(0, -3285), Long.MIN_VALUE);
            check.same("the lowest two bits", x.word(0, -3284), 3L << 62);
            check.same("the lowest 64 bits", x.word(0, -3222), -1L);
            check.same("the highest 64 bits", x.word(0, 3086), -1L);
            check.same("the highest 63 bits", x.word(0, 3087), Long.MAX_VALUE);
            check.same("the highest bit alone", x.word(0, 3149), 1L);
            check.same("above all bits", x.word(0, 3150), 0L);
        }
    }

    private static void forAnyP(Check check) {
        check.sentence("Promise 12", "Likewise.");
        for (int sign = -1; sign <= 1; sign += 2) {
            TripleSums x = new TripleSums();
            Numbers.makeMost(x, 0, sign);
            for (int p : FAR) {
                check.same("word(0, " + p + ") of ones", x.word(0, p), 0L);
                check.same("word(1, " + p + ") of 0", x.word(1, p), 0L);
            }
            for (int high = 13; high < 32; high++) {
                int p = 1 << high;
                check.same("word(0, " + p + ")", x.word(0, p), 0L);
                check.same("word(0, -" + p + ")", x.word(0, -p), 0L);
            }
        }
    }

    private static void noSuchSum(Check check) {
        check.sentence("Promise 12", "Likewise.");
        TripleSums x = new TripleSums();
        for (int s : Numbers.NO_SUMS) {
            check.noSuchSum("word(" + s + ", 0)", () -> x.word(s, 0));
            for (int p : FAR) {
                check.noSuchSum("word(" + s + ", " + p + ")", () -> x.word(s, p));
            }
        }
        for (int s = 0; s < 8; s++) {
            int sum = s;
            for (int p : FAR) {
                check.accepts("word(" + s + ", " + p + ")", () -> x.word(sum, p));
            }
        }
    }
}
