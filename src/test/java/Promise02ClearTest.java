import java.math.BigInteger;

/** Promise 2, clear. */
public final class Promise02ClearTest {
    public static void main(String[] args) {
        Check check = new Check();
        check.test(Promise02ClearTest::becomesZero);
        check.test(Promise02ClearTest::clearsLargeAndSmall);
        check.test(Promise02ClearTest::noSuchSum);
        check.end();
    }

    private static void becomesZero(Check check) {
        check.sentence("Promise 2", "A sum becomes 0.");
        for (int s = 0; s < 8; s++) {
            TripleSums x = new TripleSums();
            for (int t = 0; t < 8; t++) {
                x.add(t, Numbers.ONE, Numbers.ONE, Numbers.ONE, t + 1);
            }
            x.clear(s);
            for (int t = 0; t < 8; t++) {
                BigInteger due = Numbers.scaled(s == t ? 0 : t + 1, 0);
                check.same("sum " + t + " after clear(" + s + ")", Numbers.exact(x, t), due);
            }
        }
    }

    private static void clearsLargeAndSmall(Check check) {
        check.sentence("Promise 2", "A sum becomes 0.");
        for (int sign = -1; sign <= 1; sign += 2) {
            TripleSums x = new TripleSums();
            Numbers.makeMost(x, 3, sign);
            Numbers.addPower(x, 3, 3069, sign);
            x.clear(3);
            check.same("sign of a cleared sum", x.sign(3), 0);
            check.same("exact of a cleared sum", Numbers.exact(x, 3), BigInteger.ZERO);
            check.same("nearest of a cleared sum", x.nearest(3), 0L);
            check.same("compare of a cleared sum", x.compare(3, 2), 0);
            x.clear(3);
            check.same("top of one cleared again", x.top(3), TripleSums.NONE);
            x.add(3, Numbers.ONE, Numbers.ONE, Numbers.ONE, 2);
            check.same("nearest of one used again", x.nearest(3), Numbers.of(2.0));
        }
    }

    private static void noSuchSum(Check check) {
        check.sentence("Promise 2", "IndexOutOfBoundsException when there is no such sum.");
        TripleSums x = new TripleSums();
        for (int s = 0; s < 8; s++) {
            Numbers.addNumber(x, s, Numbers.ONE, 1);
        }
        for (int s : Numbers.NO_SUMS) {
            check.noSuchSum("clear(" + s + ")", () -> x.clear(s));
        }
        for (int s = 0; s < 8; s++) {
            int sum = s;
            check.same("sum " + s + " after refusals", x.sign(s), 1);
            check.accepts("clear(" + s + ")", () -> x.clear(sum));
        }
    }
}
