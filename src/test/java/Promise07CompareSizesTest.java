/** compareSizes: by the sums without their signs. */
public final class Promise07CompareSizesTest {
    private static final int[] RANK = {0, 1, 1, 2, 2, 3, 4, 4};

    public static void main(String[] args) {
        Check check = new Check();
        inOrder(check);
        byOneUnit(check);
        refusals(check);
        check.end();
    }

    private static void inOrder(Check check) {
        TripleSums x = new TripleSums();
        Numbers.addPower(x, 1, Numbers.LOWEST, 1);
        Numbers.addPower(x, 2, Numbers.LOWEST, -1);
        x.add(3, Numbers.of(-1), Numbers.ONE, Numbers.ONE, 1);
        x.add(4, Numbers.of(1), Numbers.ONE, Numbers.ONE, 1);
        x.add(5, Numbers.of(-2), Numbers.ONE, Numbers.ONE, 1);
        Numbers.makeHalfLimit(x, 6, 1);
        Numbers.makeHalfLimit(x, 7, -1);
        for (int s = 0; s < 8; s++) {
            for (int t = 0; t < 8; t++) {
                int due = Integer.compare(RANK[s], RANK[t]);
                check.same("compareSizes(" + s + ", " + t + ")", x.compareSizes(s, t), due);
            }
        }
        check.same("it changes nothing", Numbers.exact(x, 5), Numbers.scaled(-2, 0));
    }

    private static void byOneUnit(Check check) {
        for (int signs = 0; signs < 4; signs++) {
            int left = (signs & 1) == 0 ? 1 : -1;
            int right = (signs & 2) == 0 ? 1 : -1;
            TripleSums x = new TripleSums();
            Numbers.makeHalfLimit(x, 0, left);
            Numbers.makeHalfLimit(x, 1, right);
            check.same("as large, signs " + signs, x.compareSizes(0, 1), 0);
            Numbers.addPower(x, 1, Numbers.LOWEST, right);
            check.same("a unit less, signs " + signs, x.compareSizes(0, 1), -1);
            check.same("a unit more, signs " + signs, x.compareSizes(1, 0), 1);
        }
    }

    private static void refusals(Check check) {
        TripleSums x = new TripleSums();
        for (int s : Numbers.NO_SUMS) {
            check.noSuchSum("compareSizes(" + s + ", 0)", () -> x.compareSizes(s, 0));
            check.noSuchSum("compareSizes(0, " + s + ")", () -> x.compareSizes(0, s));
            check.noSuchSum("compareSizes(" + s + ", " + s + ")", () -> x.compareSizes(s, s));
        }
    }
}
