/** Promise 6, compare. */
public final class Promise06CompareTest {
    private static final String ORDER = "-1, 0, 1 when a sum is less than another one, the same, more.";

    public static void main(String[] args) {
        Check check = new Check();
        check.test(Promise06CompareTest::inOrder);
        check.test(Promise06CompareTest::byOneUnit);
        check.test(Promise06CompareTest::aroundZero);
        check.test(Promise06CompareTest::noSuchSums);
        check.end();
    }

    /** Sums 0 to 7 go up, so that each pair's answer is that of its indices. */
    private static void inOrder(Check check) {
        check.sentence("Promise 6", ORDER);
        TripleSums x = new TripleSums();
        Numbers.makeHalfLimit(x, 0, -1);
        x.add(1, Numbers.of(-2), Numbers.ONE, Numbers.ONE, 1);
        Numbers.addUnit(x, 2, -1);
        Numbers.addUnit(x, 4, 1);
        x.add(5, Numbers.of(1), Numbers.ONE, Numbers.ONE, 1);
        x.add(6, Numbers.of(2), Numbers.ONE, Numbers.ONE, 1);
        Numbers.makeHalfLimit(x, 7, 1);
        for (int s = 0; s < 8; s++) {
            for (int t = 0; t < 8; t++) {
                check.same("compare(" + s + ", " + t + ")", x.compare(s, t), Integer.compare(s, t));
            }
        }
        check.same("it changes nothing", Numbers.exact(x, 1), Numbers.scaled(-2, 0));
    }

    private static void byOneUnit(Check check) {
        check.sentence("Promise 6", ORDER);
        for (int sign = -1; sign <= 1; sign += 2) {
            TripleSums x = new TripleSums();
            Numbers.makeHalfLimit(x, 0, sign);
            x.plus(1, 0, 1);
            check.same("as large", x.compare(0, 1), 0);
            Numbers.addUnit(x, 1, 1);
            check.same("a unit less", x.compare(0, 1), -1);
            check.same("a unit more", x.compare(1, 0), 1);
            Numbers.makeMost(x, 2, sign);
            Numbers.makeMost(x, 3, -sign);
            check.same("the most with sign " + sign, x.compare(2, 3), sign);
            check.same("the most with itself", x.compare(2, 2), 0);
        }
    }

    private static void aroundZero(Check check) {
        check.sentence("Promise 6", ORDER);
        TripleSums x = new TripleSums();
        check.same("0 and 0", x.compare(0, 1), 0);
        check.same("0 and itself", x.compare(0, 0), 0);
        Numbers.addNumber(x, 0, Numbers.SIGN, 1);
        check.same("-0 and 0", x.compare(0, 1), 0);
        Numbers.addUnit(x, 0, -1);
        check.same("a unit below 0 and 0", x.compare(0, 1), -1);
        check.same("0 and a unit below 0", x.compare(1, 0), 1);
        Numbers.addUnit(x, 0, 2);
        check.same("a unit above 0 and 0", x.compare(0, 1), 1);
        check.same("0 and a unit above 0", x.compare(1, 0), -1);
    }

    private static void noSuchSums(Check check) {
        check.sentence("Promise 6", "IndexOutOfBoundsException when there are no such sums.");
        TripleSums x = new TripleSums();
        for (int s : Numbers.NO_SUMS) {
            check.noSuchSum("compare(" + s + ", 0)", () -> x.compare(s, 0));
            check.noSuchSum("compare(0, " + s + ")", () -> x.compare(0, s));
            check.noSuchSum("compare(" + s + ", " + s + ")", () -> x.compare(s, s));
        }
        for (int s = 0; s < 8; s++) {
            int sum = s;
            check.accepts("compare(" + s + ", 7)", () -> x.compare(sum, 7));
            check.accepts("compare(7, " + s + ")", () -> x.compare(7, sum));
        }
    }
}
