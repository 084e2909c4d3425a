import java.math.BigInteger;

/** A new object: eight sums, all 0; and no object's sums are another one's. */
public final class Promise01NewObjectTest {
    public static void main(String[] args) {
        Check check = new Check();
        allAreZero(check, new TripleSums());
        objectsStandApart(check);
        sumsStandApart(check);
        check.same("NONE", TripleSums.NONE, -100000);
        check.end();
    }

    private static void allAreZero(Check check, TripleSums x) {
        for (int s = 0; s < 8; s++) {
            check.same("sign(" + s + ")", x.sign(s), 0);
            check.same("exact " + s, Numbers.exact(x, s), BigInteger.ZERO);
            check.same("nearest(" + s + ")", x.nearest(s), 0L);
            check.same("top(" + s + ")", x.top(s), TripleSums.NONE);
            check.same("bottom(" + s + ")", x.bottom(s), TripleSums.NONE);
        }
    }

    private static void objectsStandApart(Check check) {
        TripleSums used = new TripleSums();
        for (int s = 0; s < 8; s++) {
            used.add(s, Numbers.ONE, Numbers.ONE, Numbers.ONE, 1);
        }
        allAreZero(check, new TripleSums());
    }

    private static void sumsStandApart(Check check) {
        for (int s = 0; s < 8; s++) {
            TripleSums x = new TripleSums();
            x.add(s, Numbers.ONE, Numbers.ONE, Numbers.ONE, 1);
            for (int t = 0; t < 8; t++) {
                check.same("sign(" + t + ") after add(" + s + ")", x.sign(t), s == t ? 1 : 0);
            }
        }
    }
}
