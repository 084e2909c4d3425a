import java.math.BigInteger;
import java.util.LinkedHashMap;
import java.util.Map;

/** The document's terms, SUMS: how many, what they are, their size and its bits. */
public final class TermsSumsTest {
    private interface CallOf {
        void run(TripleSums x, int s);
    }

    private static final Map<String, CallOf> CALLS = calls();

    public static void main(String[] args) {
        Check check = new Check();
        check.test(TermsSumsTest::zeroToSeven);
        check.test(TermsSumsTest::exactNumbers);
        check.test(TermsSumsTest::atFirstZero);
        check.test(TermsSumsTest::sizeWithoutSign);
        check.test(TermsSumsTest::multiplesOfTheUnit);
        check.test(TermsSumsTest::bitsOfTheSize);
        check.test(TermsSumsTest::none);
        check.test(TermsSumsTest::lastOf512Calls);
        check.end();
    }

    private static Map<String, CallOf> calls() {
        Map<String, CallOf> calls = new LinkedHashMap<>();
        calls.put("clear(s)", (x, s) -> x.clear(s));
        calls.put("add(s, ..)", (x, s) -> x.add(s, Numbers.ONE, Numbers.ONE, Numbers.ONE, 1));
        calls.put("plus(s, 0, 1)", (x, s) -> x.plus(s, 0, 1));
        calls.put("plus(0, s, 1)", (x, s) -> x.plus(0, s, 1));
        calls.put("sign(s)", (x, s) -> x.sign(s));
        calls.put("compare(s, 0)", (x, s) -> x.compare(s, 0));
        calls.put("compare(0, s)", (x, s) -> x.compare(0, s));
        calls.put("compareSizes(s, 0)", (x, s) -> x.compareSizes(s, 0));
        calls.put("compareSizes(0, s)", (x, s) -> x.compareSizes(0, s));
        calls.put("nearest(s)", (x, s) -> x.nearest(s));
        calls.put("top(s)", (x, s) -> x.top(s));
        calls.put("bottom(s)", (x, s) -> x.bottom(s));
        calls.put("bit(s, 0)", (x, s) -> x.bit(s, 0));
        calls.put("word(s, 0)", (x, s) -> x.word(s, 0));
        return calls;
    }

    private static void zeroToSeven(Check check) {
        check.sentence("Terms", "There are SUMS 0 .. 7, exact numbers, at first 0.");
        for (Map.Entry<String, CallOf> call : CALLS.entrySet()) {
            TripleSums x = new TripleSums();
            for (int s = 0; s <= 7; s++) {
                int sum = s;
                check.accepts(call.getKey() + ", s = " + s, () -> call.getValue().run(x, sum));
            }
            for (int s : Numbers.NO_SUMS) {
                check.noSuchSum(call.getKey() + ", s = " + s, () -> call.getValue().run(x, s));
            }
        }
        TripleSums counted = new TripleSums();
        for (int s = 0; s <= 7; s++) {
            Numbers.addNumber(counted, s, Numbers.ONE, s + 1);
        }
        for (int s = 0; s <= 7; s++) {
            check.same("sum " + s + " of its own", counted.nearest(s), Numbers.of(s + 1));
        }
        // The low bits of these are those of a sum that there is.
        for (int high = 3; high < 32; high++) {
            TripleSums x = new TripleSums();
            int s = 1 << high;
            check.noSuchSum("sign(" + s + ")", () -> x.sign(s));
            check.noSuchSum("clear(" + s + " + 7)", () -> x.clear(s + 7));
        }
    }

    private static void exactNumbers(Check check) {
        check.sentence("Terms", "There are SUMS 0 .. 7, exact numbers, at first 0.");
        for (int s = 0; s <= 7; s++) {
            TripleSums x = new TripleSums();
            Numbers.addPower(x, s, 3069, 1000000);
            Numbers.addUnit(x, s, -1);
            BigInteger large = Numbers.scaled(1000000, 3069).subtract(BigInteger.ONE);
            check.same("the largest and the least in sum " + s, Numbers.exact(x, s), large);
            Numbers.addPower(x, s, 3069, -1000000);
            check.same("the least left in sum " + s, Numbers.exact(x, s), BigInteger.ONE.negate());
        }
        TripleSums x = new TripleSums();
        long tenth = Numbers.of(0.1);
        x.add(0, tenth, tenth, tenth, 3);
        BigInteger significand = BigInteger.valueOf((1L << 52) + (tenth & Numbers.MOST_F));
        int e = (int) (tenth >>> 52) - 1075;
        check.same("0.1 * 0.1 * 0.1 * 3", Numbers.exact(x, 0),
                significand.pow(3).multiply(BigInteger.valueOf(3)).shiftLeft(3 * e - Numbers.LOWEST));
    }

    private static void atFirstZero(Check check) {
        check.sentence("Terms", "There are SUMS 0 .. 7, exact numbers, at first 0.");
        TripleSums x = new TripleSums();
        for (int s = 0; s <= 7; s++) {
            check.same("sum " + s + " at first", Numbers.exact(x, s), BigInteger.ZERO);
            check.same("sign(" + s + ") at first", x.sign(s), 0);
        }
    }

    /** Sums 0 and 1 are one another's opposites, of several sizes from the least to the most. */
    private static void sizeWithoutSign(Check check) {
        check.sentence("Terms", "Their SIZE is what they are without their sign.");
        TripleSums unit = new TripleSums();
        Numbers.addUnit(unit, 0, -1);
        sameSizes(check, "a unit", unit);
        TripleSums small = new TripleSums();
        Numbers.addNumber(small, 0, Numbers.of(-10.75), 1);
        sameSizes(check, "10.75", small);
        TripleSums power = new TripleSums();
        Numbers.makeHalfLimit(power, 0, -1);
        sameSizes(check, "2^3149", power);
        TripleSums most = new TripleSums();
        Numbers.makeMost(most, 0, -1);
        sameSizes(check, "2^3150 less a unit", most);
    }

    private static void sameSizes(Check check, String what, TripleSums x) {
        x.plus(1, 0, -1);
        check.same("the first sign, " + what, x.sign(0), -1);
        check.same("the other sign, " + what, x.sign(1), 1);
        check.same("compareSizes, " + what, x.compareSizes(0, 1), 0);
        check.same("top, " + what, x.top(0), x.top(1));
        check.same("bottom, " + what, x.bottom(0), x.bottom(1));
        int[] places = {-3223, -3222, -3221, -64, -2, -1, 0, 1, 3, 63, 3148, 3149, 3150};
        for (int p : places) {
            check.same("bit " + p + ", " + what, x.bit(0, p), x.bit(1, p));
            check.same("word " + p + ", " + what, x.word(0, p), x.word(1, p));
        }
    }

    private static void multiplesOfTheUnit(Check check) {
        check.sentence("Terms", "Each is a whole multiple of 2^-3222.");
        for (int times = 1; times <= 5; times++) {
            TripleSums x = new TripleSums();
            Numbers.addUnit(x, 0, times);
            check.same("units " + times, x.word(0, -3222), (long) times);
            check.same("units " + times + " from one lower", x.word(0, -3223), 2L * times);
            check.same("units " + times + ", bit below", x.bit(0, -3223), false);
        }
        for (int sign = -1; sign <= 1; sign += 2) {
            TripleSums x = new TripleSums();
            Numbers.makeMost(x, 0, sign);
            check.same("bottom of ones", x.bottom(0), -3222);
            check.same("the unit's bit of ones", x.bit(0, -3222), true);
            for (int p = -3223; p >= -3290; p--) {
                check.same("bit " + p + " of ones", x.bit(0, p), false);
            }
            check.same("word below", x.word(0, -3286), 0L);
        }
    }

    private static void bitsOfTheSize(Check check) {
        check.sentence("Terms", "BIT p of a sum is that of its size for 2^p.");
        for (int p = Numbers.LOWEST; p <= 3069; p++) {
            int sign = (p & 1) == 0 ? 1 : -1;
            TripleSums x = new TripleSums();
            Numbers.addPower(x, 2, p, sign);
            String what = " of 2^" + p + " with sign " + sign;
            check.same("the bit" + what, x.bit(2, p), true);
            check.same("the bit below" + what, x.bit(2, p - 1), false);
            check.same("the bit above" + what, x.bit(2, p + 1), false);
        }
    }

    private static void none(Check check) {
        check.sentence("Terms", "The constants: `NONE = -100000`: There is none.");
        check.same("NONE", TripleSums.NONE, -100000);
        TripleSums x = new TripleSums();
        check.same("top of 0", x.top(0), -100000);
        check.same("bottom of 0", x.bottom(0), -100000);
        Numbers.addUnit(x, 0, 1);
        check.same("top of a unit", x.top(0), -3222);
        check.same("bottom of a unit", x.bottom(0), -3222);
    }

    private static void lastOf512Calls(Check check) {
        check.sentence("What it is", "An object is used for at most 512 calls after it has been made");
        long g = Numbers.GREATEST;
        BigInteger cube = BigInteger.valueOf((1L << 53) - 1).pow(3).shiftLeft(3 * 971 - Numbers.LOWEST);
        for (int sign = -1; sign <= 1; sign += 2) {
            int times = sign * 1000000;
            TripleSums x = new TripleSums();
            Numbers.makeMost(x, 0, sign);
            BigInteger due = Numbers.most(sign);
            for (int call = 9; call <= 407; call++) {
                x.add(0, g, g, g, times);
                due = due.add(cube.multiply(BigInteger.valueOf(times)));
            }
            check.tooLarge("call 408", () -> x.plus(0, 0, times));
            check.same("the sum by calls 409 to 511", Numbers.exact(x, 0), due);
            check.same("its sign by call 512", x.sign(0), sign);
        }
    }
}
