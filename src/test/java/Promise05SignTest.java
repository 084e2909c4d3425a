/** sign: -1, 0 or 1. */
public final class Promise05SignTest {
    public static void main(String[] args) {
        Check check = new Check();
        TripleSums x = new TripleSums();
        check.same("of a new sum", x.sign(7), 0);
        for (int p = Numbers.LOWEST; p <= 3069; p += 7) {
            ofPower(check, p);
        }
        for (int sign = -1; sign <= 1; sign += 2) {
            mixed(check, sign);
        }
        for (int s : Numbers.NO_SUMS) {
            check.noSuchSum("sign(" + s + ")", () -> x.sign(s));
        }
        check.end();
    }

    private static void ofPower(Check check, int p) {
        TripleSums x = new TripleSums();
        Numbers.addPower(x, 2, p, 1);
        check.same("2^" + p, x.sign(2), 1);
        Numbers.addPower(x, 2, p, -2);
        check.same("-2^" + p, x.sign(2), -1);
        Numbers.addPower(x, 2, p, 1);
        check.same("2^" + p + " gone", x.sign(2), 0);
    }

    private static void mixed(Check check, int sign) {
        TripleSums x = new TripleSums();
        Numbers.makeHalfLimit(x, 0, sign);
        check.same("2^3149 with sign " + sign, x.sign(0), sign);
        Numbers.addPower(x, 0, Numbers.LOWEST, -sign);
        check.same("one unit less", x.sign(0), sign);
        Numbers.addPower(x, 1, Numbers.LOWEST, sign);
        x.plus(1, 0, 1);
        x.plus(0, 1, -1);
        check.same("one unit on the other side", x.sign(0), -sign);
    }
}
