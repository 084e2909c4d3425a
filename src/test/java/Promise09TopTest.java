/** Promise 9, top. */
public final class Promise09TopTest {
    private static final String GREATEST_P = "The greatest p for which bit p is 1";

    public static void main(String[] args) {
        Check check = new Check();
        check.test(Promise09TopTest::aroundPowers);
        check.test(Promise09TopTest::ofLargeSums);
        check.test(Promise09TopTest::noneForZero);
        check.test(Promise09TopTest::noSuchSum);
        check.end();
    }

    private static void aroundPowers(Check check) {
        check.sentence("Promise 9", GREATEST_P);
        for (int sign = -1; sign <= 1; sign += 2) {
            for (int p = Numbers.LOWEST; p <= 3069; p++) {
                TripleSums x = new TripleSums();
                Numbers.addPower(x, 5, p, sign);
                String what = "2^" + p + " with sign " + sign;
                check.same("of " + what, x.top(5), p);
                Numbers.addUnit(x, 5, -sign);
                int due = p == Numbers.LOWEST ? TripleSums.NONE : p - 1;
                check.same("of a unit less than " + what, x.top(5), due);
                Numbers.addUnit(x, 5, 2 * sign);
                int more = p == Numbers.LOWEST ? p + 1 : p;
                check.same("of a unit more than " + what, x.top(5), more);
            }
        }
    }

    private static void ofLargeSums(Check check) {
        check.sentence("Promise 9", GREATEST_P);
        for (int sign = -1; sign <= 1; sign += 2) {
            TripleSums x = new TripleSums();
            Numbers.makeHalfLimit(x, 0, sign);
            check.same("of 2^3149", x.top(0), 3149);
            Numbers.addUnit(x, 0, -sign);
            check.same("of 2^3149 less a unit", x.top(0), 3148);
            Numbers.makeMost(x, 1, sign);
            check.same("of 2^3150 less a unit", x.top(1), 3149);
            Numbers.addUnit(x, 1, sign);
            check.same("of 2^3150", x.top(1), 3150);
            Numbers.addNumber(x, 2, Numbers.of(12), sign);
            check.same("of 12", x.top(2), 3);
        }
    }

    private static void noneForZero(Check check) {
        check.sentence("Promise 9", "NONE for 0.");
        TripleSums x = new TripleSums();
        for (int s = 0; s < 8; s++) {
            check.same("of 0 at first", x.top(s), TripleSums.NONE);
        }
        Numbers.addNumber(x, 1, Numbers.of(12), 1);
        x.plus(1, 1, -1);
        check.same("of 12 - 12", x.top(1), TripleSums.NONE);
        Numbers.addUnit(x, 1, -1);
        check.same("of a unit below 0", x.top(1), -3222);
        Numbers.addUnit(x, 1, 1);
        check.same("of 0 again", x.top(1), TripleSums.NONE);
        Numbers.addNumber(x, 1, Numbers.SIGN, 1);
        check.same("of -0", x.top(1), TripleSums.NONE);
        Numbers.makeMost(x, 1, -1);
        x.clear(1);
        check.same("of a cleared sum", x.top(1), TripleSums.NONE);
    }

    private static void noSuchSum(Check check) {
        check.sentence("Promise 9", "IndexOutOfBoundsException when there is no such sum.");
        TripleSums x = new TripleSums();
        for (int s : Numbers.NO_SUMS) {
            check.noSuchSum("top(" + s + ")", () -> x.top(s));
        }
        for (int s = 0; s < 8; s++) {
            int sum = s;
            check.accepts("top(" + s + ")", () -> x.top(sum));
        }
    }
}
