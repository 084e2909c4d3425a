/** Promise 5, sign. */
public final class Promise05SignTest {
    private static final String SIGNS =
            "-1 when a sum is below 0, 0 when it is 0, 1 when it is above.";

    public static void main(String[] args) {
        Check check = new Check();
        check.test(Promise05SignTest::aroundZero);
        check.test(Promise05SignTest::ofPowers);
        check.test(Promise05SignTest::ofLargeSums);
        check.test(Promise05SignTest::noSuchSum);
        check.end();
    }

    private static void aroundZero(Check check) {
        check.sentence("Promise 5", SIGNS);
        for (int s = 0; s < 8; s++) {
            TripleSums x = new TripleSums();
            check.same("of a new sum", x.sign(s), 0);
            Numbers.addUnit(x, s, -1);
            check.same("a unit below 0", x.sign(s), -1);
            Numbers.addUnit(x, s, 1);
            check.same("0 again", x.sign(s), 0);
            Numbers.addUnit(x, s, 1);
            check.same("a unit above 0", x.sign(s), 1);
            Numbers.addNumber(x, s, Numbers.SIGN, 1);
            check.same("a unit above 0, and -0", x.sign(s), 1);
        }
    }

    private static void ofPowers(Check check) {
        check.sentence("Promise 5", SIGNS);
        for (int p = Numbers.LOWEST; p <= 3069; p += 7) {
            TripleSums x = new TripleSums();
            Numbers.addPower(x, 2, p, 1);
            check.same("2^" + p, x.sign(2), 1);
            Numbers.addPower(x, 2, p, -2);
            check.same("-2^" + p, x.sign(2), -1);
            Numbers.addPower(x, 2, p, 1);
            check.same("2^" + p + " gone", x.sign(2), 0);
        }
    }

    private static void ofLargeSums(Check check) {
        check.sentence("Promise 5", SIGNS);
        for (int sign = -1; sign <= 1; sign += 2) {
            TripleSums x = new TripleSums();
            Numbers.makeHalfLimit(x, 0, sign);
            check.same("2^3149 with sign " + sign, x.sign(0), sign);
            Numbers.addUnit(x, 0, -sign);
            check.same("one unit less", x.sign(0), sign);
            Numbers.addUnit(x, 1, sign);
            x.plus(1, 0, 1);
            x.plus(0, 1, -1);
            check.same("one unit on the other side", x.sign(0), -sign);
            Numbers.makeMost(x, 2, sign);
            check.same("the most with sign " + sign, x.sign(2), sign);
            Numbers.addPower(x, 2, 3069, sign * 1000000);
            check.same("beyond the most with sign " + sign, x.sign(2), sign);
        }
    }

    private static void noSuchSum(Check check) {
        check.sentence("Promise 5", "IndexOutOfBoundsException when there is no such sum.");
        TripleSums x = new TripleSums();
        for (int s : Numbers.NO_SUMS) {
            check.noSuchSum("sign(" + s + ")", () -> x.sign(s));
        }
        for (int s = 0; s < 8; s++) {
            int sum = s;
            check.accepts("sign(" + s + ")", () -> x.sign(sum));
        }
    }
}
