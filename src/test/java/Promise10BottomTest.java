/** bottom: the lowest bit of the size; NONE for 0. */
public final class Promise10BottomTest {
    public static void main(String[] args) {
        Check check = new Check();
        TripleSums empty = new TripleSums();
        check.same("of 0", empty.bottom(0), TripleSums.NONE);
        for (int p = Numbers.LOWEST; p <= 3069; p++) {
            for (int sign = -1; sign <= 1; sign += 2) {
                ofPower(check, p, sign);
            }
        }
        TripleSums x = new TripleSums();
        Numbers.makeHalfLimit(x, 0, -1);
        check.same("of -2^3149", x.bottom(0), 3149);
        x.add(1, Numbers.of(-12), Numbers.ONE, Numbers.ONE, 1);
        check.same("of -12", x.bottom(1), 2);
        x.plus(1, 1, -1);
        check.same("of -12 + 12", x.bottom(1), TripleSums.NONE);
        for (int s : Numbers.NO_SUMS) {
            check.noSuchSum("bottom(" + s + ")", () -> x.bottom(s));
        }
        check.end();
    }

    private static void ofPower(Check check, int p, int sign) {
        TripleSums x = new TripleSums();
        Numbers.addPower(x, 5, p, sign);
        check.same("of 2^" + p + " with sign " + sign, x.bottom(5), p);
        Numbers.addPower(x, 5, 3069, sign * 2);
        check.same("of 2^" + p + " and more above, sign " + sign, x.bottom(5), p);
    }
}
