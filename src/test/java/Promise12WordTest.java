/** word: the 64 bits from p on, bit p as the long's bit 0, for any p. */
public final class Promise12WordTest {
    public static void main(String[] args) {
        Check check = new Check();
        for (int sign = -1; sign <= 1; sign += 2) {
            slides(check, sign);
            for (int p = -3300; p < 3300; p += 300) {
                ofAllOnes(check, sign, p, p + 300);
            }
        }
        outside(check);
        refusals(check);
        check.end();
    }

    /** 0b1011 * 2^-2 is seen from everywhere around it. */
    private static void slides(Check check, int sign) {
        TripleSums x = new TripleSums();
        x.add(3, Numbers.of(2.75), Numbers.ONE, Numbers.ONE, sign);
        for (int p = -80; p <= 20; p++) {
            int up = -2 - p;
            long due = up >= 64 ? 0L : up >= 0 ? 11L << up : -up >= 64 ? 0L : 11L >>> -up;
            check.same("word(3, " + p + ") with sign " + sign, x.word(3, p), due);
        }
    }

    private static void ofAllOnes(Check check, int sign, int from, int to) {
        TripleSums x = new TripleSums();
        Numbers.makeHalfLimit(x, 0, sign);
        Numbers.addPower(x, 0, Numbers.LOWEST, -sign);
        for (int p = from; p < to; p++) {
            long due = 0L;
            for (int j = 0; j < 64; j++) {
                if (p + j >= Numbers.LOWEST && p + j < 3149) {
                    due |= 1L << j;
                }
            }
            check.same("word(0, " + p + ") of ones with sign " + sign, x.word(0, p), due);
        }
    }

    private static void outside(Check check) {
        TripleSums x = new TripleSums();
        Numbers.makeHalfLimit(x, 0, -1);
        Numbers.addPower(x, 0, Numbers.LOWEST, 1);
        int[] beyond = {
            Integer.MIN_VALUE, Integer.MIN_VALUE + 63, Integer.MIN_VALUE + 64, -1000000, -3287, -3286,
            3149, 3178, 100000, Integer.MAX_VALUE - 3286, Integer.MAX_VALUE - 3222, Integer.MAX_VALUE - 3221,
            Integer.MAX_VALUE - 63, Integer.MAX_VALUE,
        };
        for (int p : beyond) {
            check.same("word(0, " + p + ")", x.word(0, p), 0L);
        }
        check.same("the lowest bit alone", x.word(0, -3285), Long.MIN_VALUE);
        check.same("the highest bit alone", x.word(0, 3148), 1L);
    }

    private static void refusals(Check check) {
        TripleSums x = new TripleSums();
        for (int s : Numbers.NO_SUMS) {
            check.noSuchSum("word(" + s + ", 0)", () -> x.word(s, 0));
            check.noSuchSum("word(" + s + ", far)", () -> x.word(s, Integer.MIN_VALUE));
        }
    }
}
