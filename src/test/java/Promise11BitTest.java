/** bit: bit p of the size, for any p. */
public final class Promise11BitTest {
    public static void main(String[] args) {
        Check check = new Check();
        for (int p = Numbers.LOWEST; p <= 3069; p += 31) {
            for (int sign = -1; sign <= 1; sign += 2) {
                aroundOneBit(check, p, sign);
            }
        }
        ofMixedSums(check);
        for (int p = -3300; p < 3300; p += 300) {
            ofAllOnes(check, p, p + 300);
        }
        outside(check);
        refusals(check);
        check.end();
    }

    private static void aroundOneBit(Check check, int p, int sign) {
        TripleSums x = new TripleSums();
        Numbers.addPower(x, 1, p, sign);
        for (int q = p - 70; q <= p + 70; q++) {
            check.same("bit " + q + " of 2^" + p + " with sign " + sign, x.bit(1, q), q == p);
        }
    }

    private static void ofMixedSums(Check check) {
        TripleSums x = new TripleSums();
        x.add(0, Numbers.of(-10.5), Numbers.ONE, Numbers.ONE, 1);
        int[] ones = {3, 1, -1};
        for (int p = -5; p <= 5; p++) {
            boolean due = false;
            for (int one : ones) {
                due |= one == p;
            }
            check.same("bit " + p + " of -10.5", x.bit(0, p), due);
        }
    }

    private static void ofAllOnes(Check check, int from, int to) {
        TripleSums x = new TripleSums();
        Numbers.makeHalfLimit(x, 2, -1);
        Numbers.addPower(x, 2, Numbers.LOWEST, 1);
        for (int p = from; p < to; p++) {
            boolean due = p >= Numbers.LOWEST && p < 3149;
            check.same("bit " + p + " of a unit less than 2^3149", x.bit(2, p), due);
        }
    }

    private static void outside(Check check) {
        TripleSums x = new TripleSums();
        Numbers.makeHalfLimit(x, 0, -1);
        Numbers.addPower(x, 0, Numbers.LOWEST, 1);
        int[] beyond = {
            Integer.MIN_VALUE, Integer.MIN_VALUE + 1, -1000000, -3286, -3223, 3150, 3177, 3178, 3179, 100000,
            Integer.MAX_VALUE - 3223, Integer.MAX_VALUE - 3222, Integer.MAX_VALUE - 3221, Integer.MAX_VALUE,
        };
        for (int p : beyond) {
            check.same("bit " + p, x.bit(0, p), false);
        }
    }

    private static void refusals(Check check) {
        TripleSums x = new TripleSums();
        for (int s : Numbers.NO_SUMS) {
            check.noSuchSum("bit(" + s + ", 0)", () -> x.bit(s, 0));
            check.noSuchSum("bit(" + s + ", far)", () -> x.bit(s, Integer.MAX_VALUE));
        }
    }
}
