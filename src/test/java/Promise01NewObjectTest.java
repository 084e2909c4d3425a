import java.math.BigInteger;

/** Promise 1, a new object. */
public final class Promise01NewObjectTest {
    public static void main(String[] args) {
        Check check = new Check();
        check.test(Promise01NewObjectTest::eightSumsAllZero);
        check.test(Promise01NewObjectTest::objectsStandApart);
        check.test(Promise01NewObjectTest::sumsStandApart);
        check.end();
    }

    private static void eightSumsAllZero(Check check) {
        check.sentence("Promise 1", "Eight sums, all 0.");
        TripleSums x = new TripleSums();
        allAreZero(check, x);
        check.noSuchSum("a sum before the first", () -> x.sign(-1));
        check.noSuchSum("a ninth sum", () -> x.sign(8));
    }

    private static void allAreZero(Check check, TripleSums x) {
        for (int s = 0; s < 8; s++) {
            check.same("sign(" + s + ")", x.sign(s), 0);
            check.same("exact " + s, Numbers.exact(x, s), BigInteger.ZERO);
            check.same("nearest(" + s + ")", x.nearest(s), 0L);
            check.same("top(" + s + ")", x.top(s), TripleSums.NONE);
            check.same("bottom(" + s + ")", x.bottom(s), TripleSums.NONE);
            check.same("compare(" + s + ", 0)", x.compare(s, 0), 0);
            check.same("word(" + s + ", -3222)", x.word(s, -3222), 0L);
        }
    }

    private static void objectsStandApart(Check check) {
        check.sentence("Promise 1", "Eight sums, all 0.");
        TripleSums used = new TripleSums();
        for (int s = 0; s < 8; s++) {
            used.add(s, Numbers.ONE, Numbers.ONE, Numbers.ONE, 1);
        }
        allAreZero(check, new TripleSums());
    }

    private static void sumsStandApart(Check check) {
        check.sentence("Promise 1", "Eight sums, all 0.");
        for (int s = 0; s < 8; s++) {
            TripleSums x = new TripleSums();
            x.add(s, Numbers.ONE, Numbers.ONE, Numbers.ONE, 1);
            for (int t = 0; t < 8; t++) {
                check.same("sign(" + t + ") after add(" + s + ")", x.sign(t), s == t ? 1 : 0);
            }
        }
    }
}
