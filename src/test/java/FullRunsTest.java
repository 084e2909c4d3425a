import java.util.LinkedHashMap;
import java.util.Map;
import java.util.function.Consumer;

/** Runs of 512 calls on one object that go to the ends of what 512 calls can do. */
public final class FullRunsTest {
    private static final String MOST_CALLS =
            "An object is used for at most 512 calls after it has been made";
    private static final int BEYOND = 4096;

    public static void main(String[] args) {
        Check check = new Check();
        check.test(FullRunsTest::eachCallAsTheLast);
        check.test(FullRunsTest::mostThatAddCanMake);
        check.test(FullRunsTest::mostOfAllSums);
        check.test(FullRunsTest::upAndBackDown);
        check.test(FullRunsTest::largeAndSmallAtOnce);
        check.test(FullRunsTest::plusUpToItsLimit);
        check.test(FullRunsTest::addBeyondTheLimitOfPlus);
        check.test(FullRunsTest::refusalsAlone);
        check.test(FullRunsTest::lookingAlone);
        check.test(FullRunsTest::sameCallsSameAnswers);
        check.test(FullRunsTest::nothingElseReachesTheCallerLater);
        check.end();
    }

    private static void isUsedUp(Check check, Twin twin) {
        check.same("calls left", twin.callsLeft(), 0);
    }

    private static void addGreatest(Twin twin, int s, int times) {
        twin.add(s, Numbers.GREATEST, Numbers.GREATEST, Numbers.GREATEST, times);
    }

    private static void addUnit(Twin twin, int s, int times) {
        twin.add(s, Numbers.TINY, Numbers.TINY, Numbers.TINY, times);
    }

    /** All that the face can do, right and wrong, each one call. */
    private static Map<String, Consumer<Twin>> everyCall() {
        Map<String, Consumer<Twin>> calls = new LinkedHashMap<>();
        calls.put("clear", x -> x.clear(0));
        calls.put("add", x -> addUnit(x, 0, -1));
        calls.put("add, no finite number", x -> x.add(0, 0L, 0L, Numbers.INFINITE, 1));
        calls.put("add, too many times", x -> x.add(0, 0L, 0L, 0L, 1000001));
        calls.put("plus", x -> x.plus(0, 1, -1000000));
        calls.put("plus, too large", x -> x.plus(0, 2, 2));
        calls.put("plus, too many times", x -> x.plus(0, 1, -1000001));
        calls.put("sign", x -> x.sign(0));
        calls.put("compare", x -> x.compare(0, 1));
        calls.put("compareSizes", x -> x.compareSizes(0, 1));
        calls.put("nearest", x -> x.nearest(0));
        calls.put("top", x -> x.top(0));
        calls.put("bottom", x -> x.bottom(0));
        calls.put("bit", x -> x.bit(0, -3222));
        calls.put("word", x -> x.word(0, 3060));
        calls.put("no such sum", x -> x.sign(8));
        return calls;
    }

    private static void eachCallAsTheLast(Check check) {
        check.sentence("What it is", MOST_CALLS);
        for (Map.Entry<String, Consumer<Twin>> last : everyCall().entrySet()) {
            for (int sign = -1; sign <= 1; sign += 2) {
                Twin twin = new Twin(check, "last is " + last.getKey() + ": ");
                addUnit(twin, 0, sign);
                addUnit(twin, 1, -sign);
                makeHalfLimit(twin, 2);
                while (twin.callsLeft() > 1) {
                    addGreatest(twin, 0, 1000000 * sign);
                }
                last.getValue().accept(twin);
                isUsedUp(check, twin);
            }
        }
    }

    /** Makes a sum that was 0 to 2^3149. */
    private static void makeHalfLimit(Twin twin, int s) {
        long most = Numbers.power(1023);
        twin.add(s, most, most, most, 1 << 19);
        for (int i = 0; i < 3; i++) {
            twin.plus(s, s, (1 << 19) - 1);
        }
        twin.plus(s, s, 15);
    }

    private static void mostThatAddCanMake(Check check) {
        check.sentence("What it is", MOST_CALLS);
        for (int sign = -1; sign <= 1; sign += 2) {
            Twin twin = new Twin(check, "add's most, sign " + sign + ": ");
            while (twin.callsLeft() > Twin.CALLS_OF_LOOK + 3) {
                addGreatest(twin, 5, 1000000 * sign);
            }
            twin.top(5);
            twin.bottom(5);
            twin.nearest(5);
            twin.look(5);
            isUsedUp(check, twin);
        }
    }

    private static void mostOfAllSums(Check check) {
        check.sentence("What it is", MOST_CALLS);
        Twin twin = new Twin(check, "all eight: ");
        for (int i = 0; i < 48; i++) {
            for (int s = 0; s < 8; s++) {
                addGreatest(twin, s, (s & 1) == 0 ? 1000000 - i * s : i * s - 1000000);
            }
        }
        for (int s = 0; s < 8; s++) {
            for (int t = 0; t < 8; t++) {
                twin.compare(s, t);
                twin.compareSizes(s, t);
            }
        }
        isUsedUp(check, twin);
    }

    /** Nothing but an exact sum comes back to 0. */
    private static void upAndBackDown(Check check) {
        check.sentence("What it is", MOST_CALLS);
        Twin twin = new Twin(check, "up and back: ");
        for (int up = 1; up >= -1; up -= 2) {
            for (int i = 0; i < 255; i++) {
                long x = Numbers.bits(8 * i, Numbers.MOST_F / (i + 1));
                long y = Numbers.bits(2040 - 7 * i, 0x5555555555555L ^ i);
                long z = Numbers.bits(i % 5 * 500, i);
                twin.add(3, x, y, z, up * (1000000 - i));
            }
        }
        twin.nearest(3);
        twin.top(3);
        isUsedUp(check, twin);
    }

    private static void largeAndSmallAtOnce(Check check) {
        check.sentence("What it is", MOST_CALLS);
        Twin twin = new Twin(check, "large and small: ");
        for (int i = 0; i < 102; i++) {
            addGreatest(twin, 6, 1000000);
            addUnit(twin, 6, -1);
            twin.bottom(6);
            twin.word(6, -3222);
            twin.top(6);
        }
        twin.word(6, 3060);
        twin.nearest(6);
        isUsedUp(check, twin);
    }

    /** From one unit up, 19 places a call: then plus refuses, and the sum stays to the end. */
    private static void plusUpToItsLimit(Check check) {
        check.sentence("What it is", MOST_CALLS);
        for (int sign = -1; sign <= 1; sign += 2) {
            Twin twin = new Twin(check, "plus to its limit, sign " + sign + ": ");
            addUnit(twin, 7, sign);
            addUnit(twin, 4, sign);
            for (int i = 0; i < 335; i++) {
                twin.plus(7, 7, (1 << 19) - 1);
            }
            for (int i = 0; i < 12; i++) {
                twin.plus(7, 7, 1);
                twin.plus(7, 4, i);
            }
            while (twin.callsLeft() > Twin.CALLS_OF_LOOK) {
                twin.plus(7, 7, twin.callsLeft());
            }
            twin.look(7);
            isUsedUp(check, twin);
        }
    }

    private static void addBeyondTheLimitOfPlus(Check check) {
        check.sentence("What it is", MOST_CALLS);
        for (int sign = -1; sign <= 1; sign += 2) {
            Twin twin = new Twin(check, "add beyond the limit, sign " + sign + ": ");
            makeHalfLimit(twin, 2);
            addUnit(twin, 0, -sign);
            twin.plus(0, 2, sign);
            twin.plus(0, 2, sign);
            while (twin.callsLeft() > Twin.CALLS_OF_LOOK + 5) {
                addGreatest(twin, 0, 1000000 * sign);
            }
            twin.plus(0, 0, 1000000);
            twin.plus(0, 0, -1000000);
            twin.plus(1, 0, 1000000);
            twin.plus(1, 0, -1000000);
            twin.plus(0, 1, 0);
            twin.look(0);
            isUsedUp(check, twin);
        }
    }

    private static void refusalsAlone(Check check) {
        check.sentence("What it is", MOST_CALLS);
        Twin twin = new Twin(check, "refusals: ");
        while (twin.callsLeft() > 8) {
            int s = twin.callsLeft() % 2 == 0 ? -twin.callsLeft() : twin.callsLeft();
            long bad = Numbers.NOT_FINITE[twin.callsLeft() % Numbers.NOT_FINITE.length];
            twin.clear(s);
            twin.add(1, Numbers.ONE, bad, Numbers.ONE, 1);
            twin.add(s, Numbers.ONE, Numbers.ONE, Numbers.ONE, 1);
            twin.plus(s, 1, 1);
            twin.plus(1, s, 1);
            twin.plus(1, 1, 1000000 + twin.callsLeft());
        }
        for (int s = 0; s < 8; s++) {
            twin.sign(s);
        }
        isUsedUp(check, twin);
    }

    /** No look at a sum changes one: the last answers are those of the first. */
    private static void lookingAlone(Check check) {
        check.sentence("What it is", MOST_CALLS);
        Twin twin = new Twin(check, "looking: ");
        makeHalfLimit(twin, 0);
        addUnit(twin, 0, -3);
        addUnit(twin, 1, -3);
        while (twin.callsLeft() > 9) {
            twin.sign(0);
            twin.compare(0, 1);
            twin.compareSizes(1, 0);
            twin.nearest(1);
            twin.top(0);
            twin.bottom(0);
            twin.bit(1, -3222);
            twin.word(0, -3222 + twin.callsLeft());
        }
        for (int s = 0; twin.callsLeft() > 0; s++) {
            twin.compareSizes(s % 8, 0);
        }
        isUsedUp(check, twin);
    }

    /** Two objects used by turns, so that what one call leaves behind in one meets the other. */
    private static void sameCallsSameAnswers(Check check) {
        check.sentence("What it is", MOST_CALLS);
        TripleSums first = new TripleSums();
        TripleSums second = new TripleSums();
        for (int i = 0; i < 256; i++) {
            long x = Numbers.bits(i * 8 % 2047, i);
            first.add(i % 8, x, Numbers.HALF, Numbers.GREATEST, i - 128);
            second.add(i % 8, x, Numbers.HALF, Numbers.GREATEST, i - 128);
            check.same("call " + (2 * i + 2), first.nearest(i % 3), second.nearest(i % 3));
        }
    }

    private static void nothingElseReachesTheCallerLater(Check check) {
        check.sentence("What it is", "what later calls answer is free.");
        for (int sign = -1; sign <= 1; sign += 2) {
            int times = 1000000 * sign;
            TripleSums x = new TripleSums();
            Numbers.makeMost(x, 0, sign);
            for (int i = 0; i < BEYOND; i++) {
                int s = i % 8;
                check.isTrue("add, later", ends(() -> x.add(0, Numbers.GREATEST, Numbers.GREATEST,
                        Numbers.GREATEST, times)));
                check.isTrue("plus, later", ends(() -> x.plus(s, 0, times)));
                check.isTrue("compare, later", ends(() -> x.compare(0, s)));
                check.isTrue("compareSizes, later", ends(() -> x.compareSizes(0, s)));
                check.isTrue("nearest, later", ends(() -> x.nearest(s)));
                check.isTrue("top and bottom, later", ends(() -> x.bit(s, x.top(s) - x.bottom(s))));
                check.isTrue("word, later", ends(() -> x.word(s, 3000 + 7 * s)));
                check.isTrue("sign, later", ends(() -> x.sign(s)));
            }
            check.isTrue("clear, later", ends(() -> x.clear(0)));
        }
    }

    /** Whether a call comes back, with an answer or with what the document has plus throw. */
    private static boolean ends(Check.Call call) {
        try {
            call.run();
            return true;
        } catch (IllegalStateException e) {
            return true;
        } catch (RuntimeException e) {
            return false;
        }
    }
}
