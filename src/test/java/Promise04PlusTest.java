import java.math.BigInteger;

/** plus: more by times another sum or the same one, and refused, the sum staying, from 2^3150 on. */
public final class Promise04PlusTest {
    private static final Class<IllegalStateException> TOO_LARGE = IllegalStateException.class;

    public static void main(String[] args) {
        Check check = new Check();
        ordinary(check);
        ofItself(check);
        wideSums(check);
        for (int sign = -1; sign <= 1; sign += 2) {
            limit(check, sign);
            farBeyondTheLimit(check, sign);
            fromBeyondTheLimit(check, sign);
        }
        refusals(check);
        check.end();
    }

    private static void ordinary(Check check) {
        TripleSums x = new TripleSums();
        x.add(0, Numbers.of(3), Numbers.ONE, Numbers.ONE, 1);
        x.add(1, Numbers.of(-0.5), Numbers.ONE, Numbers.ONE, 1);
        x.plus(0, 1, 4);
        check.same("3 + 4 * -0.5", Numbers.exact(x, 0), Numbers.scaled(1, 0));
        check.same("the other stays", Numbers.exact(x, 1), Numbers.scaled(-1, -1));
        x.plus(0, 1, -4);
        check.same("1 - 4 * -0.5", Numbers.exact(x, 0), Numbers.scaled(3, 0));
        x.plus(0, 1, 0);
        check.same("3 + 0 * -0.5", Numbers.exact(x, 0), Numbers.scaled(3, 0));
        x.plus(0, 1, 1000000);
        check.same("3 - 500000", Numbers.exact(x, 0), Numbers.scaled(-499997, 0));
        x.plus(0, 1, -1000000);
        check.same("back to 3", Numbers.exact(x, 0), Numbers.scaled(3, 0));
        x.plus(2, 3, 1000000);
        check.same("0 + 0", Numbers.exact(x, 2), BigInteger.ZERO);
    }

    private static void ofItself(Check check) {
        TripleSums x = new TripleSums();
        x.add(5, Numbers.of(-21), Numbers.ONE, Numbers.ONE, 1);
        x.plus(5, 5, -2);
        check.same("-21 + 42", Numbers.exact(x, 5), Numbers.scaled(21, 0));
        x.plus(5, 5, 1000000);
        check.same("21 * 1000001", Numbers.exact(x, 5), Numbers.scaled(21 * 1000001L, 0));
        x.plus(5, 5, -1);
        check.same("taken from itself", Numbers.exact(x, 5), BigInteger.ZERO);
    }

    private static void wideSums(Check check) {
        TripleSums x = new TripleSums();
        Numbers.addPower(x, 0, 3069, 1);
        Numbers.addPower(x, 0, Numbers.LOWEST, -1);
        BigInteger wide = Numbers.scaled(1, 3069).subtract(BigInteger.ONE);
        x.plus(1, 0, 999983);
        check.same("times all ones", Numbers.exact(x, 1), wide.multiply(BigInteger.valueOf(999983)));
        x.plus(1, 0, -1000000);
        check.same("down below 0", Numbers.exact(x, 1), wide.multiply(BigInteger.valueOf(-17)));
        x.plus(1, 0, 17);
        check.same("up to 0", x.sign(1), 0);
    }

    private static void limit(Check check, int sign) {
        TripleSums x = new TripleSums();
        Numbers.makeHalfLimit(x, 0, sign);
        BigInteger half = Numbers.scaled(sign, 3149);
        check.same("half the limit", Numbers.exact(x, 0), half);
        check.refuses("to the limit, sign " + sign, TOO_LARGE, () -> x.plus(0, 0, 1));
        check.same("it stays", Numbers.exact(x, 0), half);
        check.refuses("over to the limit, sign " + sign, TOO_LARGE, () -> x.plus(0, 0, -3));
        check.same("it stays", Numbers.exact(x, 0), half);
        check.refuses("another to the limit, sign " + sign, TOO_LARGE, () -> x.plus(1, 0, 2));
        check.same("the other stays 0", Numbers.exact(x, 1), BigInteger.ZERO);

        Numbers.addPower(x, 1, Numbers.LOWEST, -sign);
        x.plus(1, 0, 2);
        BigInteger most = half.shiftLeft(1).subtract(BigInteger.valueOf(sign));
        check.same("one unit below the limit", Numbers.exact(x, 1), most);
        x.plus(1, 2, 1000000);
        x.plus(1, 1, 0);
        check.same("with nothing more", Numbers.exact(x, 1), most);
        x.plus(1, 1, -2);
        check.same("turned over", Numbers.exact(x, 1), most.negate());
    }

    private static void farBeyondTheLimit(Check check, int sign) {
        TripleSums x = new TripleSums();
        Numbers.makeHalfLimit(x, 0, sign);
        Numbers.makeHalfLimit(x, 1, 1);
        Numbers.addPower(x, 2, Numbers.LOWEST, -1);
        x.plus(2, 1, 2);
        BigInteger half = Numbers.scaled(sign, 3149);
        for (int times = 1; times <= 1 << 19; times *= 2) {
            int many = times + (times >> 1) + 2;
            check.refuses("2^3150 * " + many, TOO_LARGE, () -> x.plus(0, 2, many));
            check.refuses("2^3150 * -" + many, TOO_LARGE, () -> x.plus(0, 2, -many));
        }
        check.refuses("2^3150 * 1000000", TOO_LARGE, () -> x.plus(0, 2, 1000000));
        check.refuses("2^3150 * -1000000", TOO_LARGE, () -> x.plus(0, 2, -1000000));
        check.refuses("2^3149 * 1000001", TOO_LARGE, () -> x.plus(0, 0, 1000000));
        check.same("it stays", Numbers.exact(x, 0), half);
    }

    /** Only add goes beyond the limit; plus then answers by what its sum would be. */
    private static void fromBeyondTheLimit(Check check, int sign) {
        TripleSums x = new TripleSums();
        Numbers.makeHalfLimit(x, 1, sign);
        Numbers.addPower(x, 0, Numbers.LOWEST, -sign);
        x.plus(0, 1, 2);
        Numbers.addPower(x, 0, 3069, sign);
        Numbers.addPower(x, 0, Numbers.LOWEST, sign);
        BigInteger beyond = Numbers.scaled(sign, 3150).add(Numbers.scaled(sign, 3069));
        check.same("beyond the limit", Numbers.exact(x, 0), beyond);
        check.refuses("would still be beyond", TOO_LARGE, () -> x.plus(0, 2, 1));
        check.refuses("would still be beyond, 0 times", TOO_LARGE, () -> x.plus(0, 0, 0));
        check.refuses("another would be beyond", TOO_LARGE, () -> x.plus(2, 0, 1));
        check.same("it stays", Numbers.exact(x, 0), beyond);
        check.same("the other stays", x.sign(2), 0);
        x.plus(0, 1, -1);
        check.same("back below", Numbers.exact(x, 0), beyond.subtract(Numbers.scaled(sign, 3149)));
    }

    private static void refusals(Check check) {
        TripleSums x = new TripleSums();
        Numbers.makeHalfLimit(x, 0, 1);
        for (int s : Numbers.NO_SUMS) {
            check.noSuchSum("plus(" + s + ", 0)", () -> x.plus(s, 0, 1));
            check.noSuchSum("plus(0, " + s + ")", () -> x.plus(0, s, 1));
            check.noSuchSum("plus(0, " + s + ", 0)", () -> x.plus(0, s, 0));
            check.noSuchSum("plus(" + s + ", 0, too many)", () -> x.plus(s, 0, 1000001));
            check.noSuchSum("plus(0, " + s + ", too many)", () -> x.plus(0, s, 1000001));
        }
        for (int times : Numbers.TOO_MANY_TIMES) {
            Class<IllegalArgumentException> illegal = IllegalArgumentException.class;
            check.refuses("times " + times, illegal, () -> x.plus(0, 0, times));
            check.refuses("times " + times + " of 0", illegal, () -> x.plus(0, 1, times));
        }
        check.same("it stays", Numbers.exact(x, 0), Numbers.scaled(1, 3149));
    }
}
