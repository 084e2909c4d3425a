import java.util.Random;
import java.util.function.Supplier;

/** Long runs of mixed calls, drawn from written seeds, answered as the model answers them. */
public final class ModelTest {
    private static final int RUNS = 800;
    // With those that compareOne makes, these stay within the 512 that an object is good for.
    private static final int STEPS = 370;
    private static final int[] SPECIAL_TIMES = {0, 1, -1, 2, -2, 1000000, -1000000, 1000001, -1000001};

    private final Check check;
    private final Random random;
    private final String run;
    private final TripleSums real = new TripleSums();
    private final Model model = new Model();
    private final int spread;

    private ModelTest(Check check, int seed) {
        this.check = check;
        this.random = new Random(seed);
        this.run = "run " + seed + ": ";
        // Some runs keep all exponents close together, so that sums meet, cancel and tie.
        this.spread = new int[] {2047, 2047, 120, 8}[seed % 4];
    }

    public static void main(String[] args) {
        Check check = new Check();
        for (int seed = 0; seed < RUNS; seed++) {
            ModelTest test = new ModelTest(check, seed);
            for (int i = 0; i < STEPS; i++) {
                test.call();
            }
            test.compareOne(seed / 4 % 8);
        }
        check.end();
    }

    private void compareOne(int s) {
        check.same(run + "sum " + s, Numbers.exact(real, s), model.sums[s]);
    }

    private void call() {
        int s = sum();
        int other = sum();
        int times = times();
        switch (random.nextInt(13)) {
            case 0 -> {
                if (random.nextInt(3) == 0) {
                    both("clear(" + s + ")", done(() -> real.clear(s)), done(() -> model.clear(s)));
                }
            }
            case 1, 2, 3 -> add(s, number(), number(), number(), times);
            case 4, 5 -> both("plus(" + s + ", " + other + ", " + times + ")",
                    done(() -> real.plus(s, other, times)), done(() -> model.plus(s, other, times)));
            case 6 -> both("sign(" + s + ")", () -> real.sign(s), () -> model.sign(s));
            case 7 -> both("compare(" + s + ", " + other + ")",
                    () -> real.compare(s, other), () -> model.compare(s, other));
            case 8 -> both("compareSizes(" + s + ", " + other + ")",
                    () -> real.compareSizes(s, other), () -> model.compareSizes(s, other));
            case 9 -> both("nearest(" + s + ")", () -> real.nearest(s), () -> model.nearest(s));
            case 10 -> {
                both("top(" + s + ")", () -> real.top(s), () -> model.top(s));
                both("bottom(" + s + ")", () -> real.bottom(s), () -> model.bottom(s));
            }
            case 11 -> {
                int p = place(s);
                both("bit(" + s + ", " + p + ")", () -> real.bit(s, p), () -> model.bit(s, p));
            }
            default -> {
                int p = place(s);
                both("word(" + s + ", " + p + ")", () -> real.word(s, p), () -> model.word(s, p));
            }
        }
    }

    private void add(int s, long x, long y, long z, int times) {
        both("add(" + s + ", " + x + ", " + y + ", " + z + ", " + times + ")",
                done(() -> real.add(s, x, y, z, times)), done(() -> model.add(s, x, y, z, times)));
    }

    private int sum() {
        int draw = random.nextInt(100);
        return draw == 0 ? -1 : draw == 1 ? 8 : draw < 60 ? draw % 3 : draw % 8;
    }

    private int times() {
        int draw = random.nextInt(6);
        return draw < 3 ? SPECIAL_TIMES[random.nextInt(SPECIAL_TIMES.length)]
                : draw == 3 ? random.nextInt(2000001) - 1000000 : random.nextInt(21) - 10;
    }

    private long number() {
        long sign = (long) random.nextInt(2) << 63;
        long fraction = random.nextLong() & (1L << 52) - 1;
        long exponent = spread == 2047 ? random.nextInt(2048) : 1023 - spread + random.nextInt(2 * spread);
        switch (random.nextInt(12)) {
            case 0:
                return sign | random.nextInt(3);
            case 1:
                return sign | fraction;
            case 2:
                return sign | exponent << 52;
            case 3:
                return sign | exponent << 52 | (1L << 52) - 1;
            case 4:
                return sign | exponent << 52 | 1L;
            case 5:
                return sign | (random.nextInt(4) == 0 ? Numbers.INFINITE : Numbers.GREATEST);
            case 6:
            case 7:
                return sign | Numbers.ONE;
            default:
                return sign | exponent << 52 | fraction;
        }
    }

    private int place(int s) {
        int around = random.nextInt(200) - 100;
        boolean known = s >= 0 && s < 8 && model.sums[s].signum() != 0;
        switch (random.nextInt(5)) {
            case 0:
                return known ? model.top(s) + around : around;
            case 1:
                return known ? model.bottom(s) + around : around;
            case 2:
                return random.nextInt();
            default:
                return random.nextInt(6600) - 3300;
        }
    }

    private void both(String call, Supplier<Object> ours, Supplier<Object> due) {
        check.same(run + call, answer(ours), answer(due));
    }

    private static Supplier<Object> done(Runnable call) {
        return () -> {
            call.run();
            return "done";
        };
    }

    private static Object answer(Supplier<Object> call) {
        try {
            return call.get();
        } catch (RuntimeException e) {
            return "throws." + e.getClass().getSimpleName();
        }
    }
}
