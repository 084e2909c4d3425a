/** compare: by the sums with their signs. */
public final class Promise06CompareTest {
    public static void main(String[] args) {
        Check check = new Check();
        inOrder(check);
        byOneUnit(check);
        refusals(check);
        check.end();
    }

    /** Sums 0 to 7 go up, so that each pair's answer is that of its indices. */
    private static void inOrder(Check check) {
        TripleSums x = new TripleSums();
        Numbers.makeHalfLimit(x, 0, -1);
        x.add(1, Numbers.of(-2), Numbers.ONE, Numbers.ONE, 1);
        Numbers.addPower(x, 2, Numbers.LOWEST, -1);
        Numbers.addPower(x, 4, Numbers.LOWEST, 1);
        x.add(5, Numbers.of(1), Numbers.ONE, Numbers.ONE, 1);
        x.add(6, Numbers.of(2), Numbers.ONE, Numbers.ONE, 1);
        Numbers.makeHalfLimit(x, 7, 1);
        for (int s = 0; s < 8; s++) {
            for (int t = 0; t < 8; t++) {
                check.same("compare(" + s + ", " + t + ")", x.compare(s, t), Integer.compare(s, t));
            }
        }
        check.same("compare changes nothing", Numbers.exact(x, 1), Numbers.scaled(-2, 0));
    }

    private static void byOneUnit(Check check) {
        for (int sign = -1; sign <= 1; sign += 2) {
            TripleSums x = new TripleSums();
            Numbers.makeHalfLimit(x, 0, sign);
            x.plus(1, 0, 1);
            check.same("as large", x.compare(0, 1), 0);
            Numbers.addPower(x, 1, Numbers.LOWEST, 1);
            check.same("a unit less", x.compare(0, 1), -1);
            check.same("a unit more", x.compare(1, 0), 1);
        }
    }

    private static void refusals(Check check) {
        TripleSums x = new TripleSums();
        for (int s : Numbers.NO_SUMS) {
            check.noSuchSum("compare(" + s + ", 0)", () -> x.compare(s, 0));
            check.noSuchSum("compare(0, " + s + ")", () -> x.compare(0, s));
            check.noSuchSum("compare(" + s + ", " + s + ")", () -> x.compare(s, s));
        }
    }
}
