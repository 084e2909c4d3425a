/** top: the highest bit of the size; NONE for 0. */
public final class Promise09TopTest {
    public static void main(String[] args) {
        Check check = new Check();
        TripleSums empty = new TripleSums();
        check.same("of 0", empty.top(0), TripleSums.NONE);
        for (int p = Numbers.LOWEST; p <= 3069; p++) {
            for (int sign = -1; sign <= 1; sign += 2) {
                around(check, p, sign);
            }
        }
        TripleSums x = new TripleSums();
        Numbers.makeHalfLimit(x, 0, 1);
        check.same("of 2^3149", x.top(0), 3149);
        x.add(1, Numbers.of(12), Numbers.ONE, Numbers.ONE, 1);
        check.same("of 12", x.top(1), 3);
        x.plus(1, 1, -1);
        check.same("of 12 - 12", x.top(1), TripleSums.NONE);
        for (int s : Numbers.NO_SUMS) {
            check.noSuchSum("top(" + s + ")", () -> x.top(s));
        }
        check.end();
    }

    private static void around(Check check, int p, int sign) {
        TripleSums x = new TripleSums();
        Numbers.addPower(x, 5, p, sign);
        check.same("of 2^" + p + " with sign " + sign, x.top(5), p);
        Numbers.addPower(x, 5, Numbers.LOWEST, -sign);
        int due = p == Numbers.LOWEST ? TripleSums.NONE : p - 1;
        check.same("of a unit less than 2^" + p + " with sign " + sign, x.top(5), due);
    }
}
