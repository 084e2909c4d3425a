/** Promise 7, compareSizes: as compare, by the sums without their signs. */
public final class Promise07CompareSizesTest {
    private static final String SIZES = "Likewise by their sizes.";
    private static final int[] RANK = {0, 1, 1, 2, 2, 3, 4, 4};

    public static void main(String[] args) {
        Check check = new Check();
        check.test(Promise07CompareSizesTest::inOrder);
        check.test(Promise07CompareSizesTest::byOneUnit);
        check.test(Promise07CompareSizesTest::withZero);
        check.test(Promise07CompareSizesTest::noSuchSums);
        check.end();
    }

    private static void inOrder(Check check) {
        check.sentence("Promise 7", SIZES);
        TripleSums x = new TripleSums();
        Numbers.addUnit(x, 1, 1);
        Numbers.addUnit(x, 2, -1);
        x.add(3, Numbers.of(-1), Numbers.ONE, Numbers.ONE, 1);
        x.add(4, Numbers.of(1), Numbers.ONE, Numbers.ONE, 1);
        x.add(5, Numbers.of(-2), Numbers.ONE, Numbers.ONE, 1);
        Numbers.makeHalfLimit(x, 6, 1);
        Numbers.makeHalfLimit(x, 7, -1);
        for (int s = 0; s < 8; s++) {
            for (int t = 0; t < 8; t++) {
                int due = Integer.compare(RANK[s], RANK[t]);
                check.same("compareSizes(" + s + ", " + t + ")", x.compareSizes(s, t), due);
            }
        }
        check.same("it changes nothing", Numbers.exact(x, 5), Numbers.scaled(-2, 0));
    }

    private static void byOneUnit(Check check) {
        check.sentence("Promise 7", SIZES);
        for (int signs = 0; signs < 4; signs++) {
            int left = (signs & 1) == 0 ? 1 : -1;
            int right = (signs & 2) == 0 ? 1 : -1;
            TripleSums x = new TripleSums();
            Numbers.makeHalfLimit(x, 0, left);
            Numbers.makeHalfLimit(x, 1, right);
            check.same("as large, signs " + signs, x.compareSizes(0, 1), 0);
            Numbers.addUnit(x, 1, right);
            check.same("a unit less, signs " + signs, x.compareSizes(0, 1), -1);
            check.same("a unit more, signs " + signs, x.compareSizes(1, 0), 1);
            Numbers.makeMost(x, 2, left);
            Numbers.makeMost(x, 3, right);
            check.same("the most, signs " + signs, x.compareSizes(2, 3), 0);
            check.same("the most with itself, signs " + signs, x.compareSizes(2, 2), 0);
        }
    }

    private static void withZero(Check check) {
        check.sentence("Promise 7", SIZES);
        for (int sign = -1; sign <= 1; sign += 2) {
            TripleSums x = new TripleSums();
            check.same("0 and 0", x.compareSizes(0, 1), 0);
            Numbers.addUnit(x, 0, sign);
            check.same("a unit and 0, sign " + sign, x.compareSizes(0, 1), 1);
            check.same("0 and a unit, sign " + sign, x.compareSizes(1, 0), -1);
            check.same("a unit and itself, sign " + sign, x.compareSizes(0, 0), 0);
        }
    }

    private static void noSuchSums(Check check) {
        check.sentence("Promise 7", SIZES);
        TripleSums x = new TripleSums();
        for (int s : Numbers.NO_SUMS) {
            check.noSuchSum("compareSizes(" + s + ", 0)", () -> x.compareSizes(s, 0));
            check.noSuchSum("compareSizes(0, " + s + ")", () -> x.compareSizes(0, s));
            check.noSuchSum("compareSizes(" + s + ", " + s + ")", () -> x.compareSizes(s, s));
        }
        for (int s = 0; s < 8; s++) {
            int sum = s;
            check.accepts("compareSizes(" + s + ", 7)", () -> x.compareSizes(sum, 7));
            check.accepts("compareSizes(7, " + s + ")", () -> x.compareSizes(7, sum));
        }
    }
}
