import java.util.function.Supplier;

/** An object and its model, given the same calls: every answer is compared, every call counted. */
final class Twin {
    static final int MOST_CALLS = 512;
    // 64 bits a word from the lowest place on, to beyond what any sum can come to; and the sign.
    private static final int WORDS = 100;
    static final int CALLS_OF_LOOK = WORDS + 1;

    final Model model = new Model();
    private final TripleSums real = new TripleSums();
    private final Check check;
    private final String run;
    private int calls;

    Twin(Check check, String run) {
        this.check = check;
        this.run = run;
    }

    /** How many calls more the object may be used for. */
    int callsLeft() {
        return MOST_CALLS - calls;
    }

    void clear(int s) {
        both("clear(" + s + ")", done(() -> real.clear(s)), done(() -> model.clear(s)));
    }

    void add(int s, long x, long y, long z, int times) {
        both("add(" + s + ", " + x + ", " + y + ", " + z + ", " + times + ")",
                done(() -> real.add(s, x, y, z, times)), done(() -> model.add(s, x, y, z, times)));
    }

    void plus(int s, int other, int times) {
        both("plus(" + s + ", " + other + ", " + times + ")",
                done(() -> real.plus(s, other, times)), done(() -> model.plus(s, other, times)));
    }

    void sign(int s) {
        both("sign(" + s + ")", () -> real.sign(s), () -> model.sign(s));
    }

    void compare(int s, int other) {
        both("compare(" + s + ", " + other + ")",
                () -> real.compare(s, other), () -> model.compare(s, other));
    }

    void compareSizes(int s, int other) {
        both("compareSizes(" + s + ", " + other + ")",
                () -> real.compareSizes(s, other), () -> model.compareSizes(s, other));
    }

    void nearest(int s) {
        both("nearest(" + s + ")", () -> real.nearest(s), () -> model.nearest(s));
    }

    void top(int s) {
        both("top(" + s + ")", () -> real.top(s), () -> model.top(s));
    }

    void bottom(int s) {
        both("bottom(" + s + ")", () -> real.bottom(s), () -> model.bottom(s));
    }

    void bit(int s, int p) {
        both("bit(" + s + ", " + p + ")", () -> real.bit(s, p), () -> model.bit(s, p));
    }

    void word(int s, int p) {
        both("word(" + s + ", " + p + ")", () -> real.word(s, p), () -> model.word(s, p));
    }

    /** Looks at all that a sum is, in CALLS_OF_LOOK calls. */
    void look(int s) {
        for (int k = 0; k < WORDS; k++) {
            word(s, Numbers.LOWEST + 64 * k);
        }
        sign(s);
    }

    private void both(String call, Supplier<Object> ours, Supplier<Object> due) {
        if (callsLeft() == 0) {
            throw new IllegalStateException(run + call + " is a call too many: the test is wrong");
        }
        calls++;
        check.same(run + call + " as call " + calls, answer(ours), answer(due));
    }

    private static Supplier<Object> done(Runnable call) {
        return () -> {
            call.run();
            return "done";
        };
    }

    private static Object answer(Supplier<Object> call) {
        try {
            return call.get();
        } catch (RuntimeException e) {
            return "throws." + e.getClass().getSimpleName();
        }
    }
}
