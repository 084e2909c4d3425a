import java.math.BigInteger;

/** clear: the sum becomes 0, whatever it was; the others stay. */
public final class Promise02ClearTest {
    public static void main(String[] args) {
        Check check = new Check();
        for (int s = 0; s < 8; s++) {
            clearsThisOneAlone(check, s);
        }
        clearsLargeAndSmall(check);
        refusals(check);
        check.end();
    }

    private static void clearsThisOneAlone(Check check, int s) {
        TripleSums x = new TripleSums();
        for (int t = 0; t < 8; t++) {
            x.add(t, Numbers.ONE, Numbers.ONE, Numbers.ONE, t + 1);
        }
        x.clear(s);
        for (int t = 0; t < 8; t++) {
            BigInteger due = Numbers.scaled(s == t ? 0 : t + 1, 0);
            check.same("sum " + t + " after clear(" + s + ")", Numbers.exact(x, t), due);
        }
    }

    private static void clearsLargeAndSmall(Check check) {
        TripleSums x = new TripleSums();
        Numbers.makeHalfLimit(x, 3, -1);
        Numbers.addPower(x, 3, Numbers.LOWEST, 1);
        x.clear(3);
        check.same("sign of a cleared sum", x.sign(3), 0);
        check.same("exact of a cleared sum", Numbers.exact(x, 3), BigInteger.ZERO);
        check.same("nearest of a cleared sum", x.nearest(3), 0L);
        x.clear(3);
        check.same("top of one cleared again", x.top(3), TripleSums.NONE);
        x.add(3, Numbers.ONE, Numbers.ONE, Numbers.ONE, 2);
        check.same("nearest of one used again", x.nearest(3), Numbers.of(2.0));
    }

    private static void refusals(Check check) {
        TripleSums x = new TripleSums();
        x.add(0, Numbers.ONE, Numbers.ONE, Numbers.ONE, 1);
        x.add(7, Numbers.ONE, Numbers.ONE, Numbers.ONE, 1);
        for (int s : Numbers.NO_SUMS) {
            check.noSuchSum("clear(" + s + ")", () -> x.clear(s));
        }
        check.same("sum 0 after refusals", x.sign(0), 1);
        check.same("sum 7 after refusals", x.sign(7), 1);
    }
}
