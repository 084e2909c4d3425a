/** Promise 10, bottom. */
public final class Promise10BottomTest {
    private static final String LEAST_P = "The least p for which bit p is 1";

    public static void main(String[] args) {
        Check check = new Check();
        check.test(Promise10BottomTest::ofPowers);
        check.test(Promise10BottomTest::ofLargeSums);
        check.test(Promise10BottomTest::noneForZero);
        check.test(Promise10BottomTest::noSuchSum);
        check.end();
    }

    private static void ofPowers(Check check) {
        check.sentence("Promise 10", LEAST_P);
        for (int sign = -1; sign <= 1; sign += 2) {
            for (int p = Numbers.LOWEST; p <= 3069; p++) {
                TripleSums x = new TripleSums();
                Numbers.addPower(x, 5, p, sign);
                String what = "2^" + p + " with sign " + sign;
                check.same("of " + what, x.bottom(5), p);
                Numbers.addPower(x, 5, 3069, sign * 2);
                check.same("of " + what + " and more above", x.bottom(5), p);
                Numbers.addUnit(x, 5, -sign);
                int due = p == Numbers.LOWEST ? 3070 : Numbers.LOWEST;
                check.same("of " + what + " and more above, less a unit", x.bottom(5), due);
            }
        }
    }

    private static void ofLargeSums(Check check) {
        check.sentence("Promise 10", LEAST_P);
        for (int sign = -1; sign <= 1; sign += 2) {
            TripleSums x = new TripleSums();
            Numbers.makeHalfLimit(x, 0, sign);
            check.same("of 2^3149", x.bottom(0), 3149);
            Numbers.addUnit(x, 0, sign);
            check.same("of 2^3149 and a unit", x.bottom(0), -3222);
            Numbers.makeMost(x, 1, sign);
            check.same("of 2^3150 less a unit", x.bottom(1), -3222);
            Numbers.addUnit(x, 1, sign);
            check.same("of 2^3150", x.bottom(1), 3150);
            Numbers.addNumber(x, 2, Numbers.of(12), sign);
            check.same("of 12", x.bottom(2), 2);
        }
    }

    private static void noneForZero(Check check) {
        check.sentence("Promise 10", "NONE for 0.");
        TripleSums x = new TripleSums();
        for (int s = 0; s < 8; s++) {
            check.same("of 0 at first", x.bottom(s), TripleSums.NONE);
        }
        Numbers.addNumber(x, 1, Numbers.of(-12), 1);
        x.plus(1, 1, -1);
        check.same("of -12 + 12", x.bottom(1), TripleSums.NONE);
        Numbers.addUnit(x, 1, -1);
        check.same("of a unit below 0", x.bottom(1), -3222);
        Numbers.addUnit(x, 1, 1);
        check.same("of 0 again", x.bottom(1), TripleSums.NONE);
        Numbers.addNumber(x, 1, Numbers.SIGN, 1);
        check.same("of -0", x.bottom(1), TripleSums.NONE);
        Numbers.makeMost(x, 1, -1);
        x.clear(1);
        check.same("of a cleared sum", x.bottom(1), TripleSums.NONE);
    }

    private static void noSuchSum(Check check) {
        check.sentence("Promise 10", "Likewise.");
        TripleSums x = new TripleSums();
        for (int s : Numbers.NO_SUMS) {
            check.noSuchSum("bottom(" + s + ")", () -> x.bottom(s));
        }
        for (int s = 0; s < 8; s++) {
            int sum = s;
            check.accepts("bottom(" + s + ")", () -> x.bottom(sum));
        }
    }
}
