import java.util.Random;

/** Runs of 512 mixed calls, drawn from written seeds, answered as the model answers them. */
public final class ModelTest {
    private static final int RUNS = 800;
    private static final int[] SPECIAL_TIMES = {0, 1, -1, 2, -2, 1000000, -1000000, 1000001, -1000001};

    private final Random random;
    private final Twin twin;
    private final int spread;

    private ModelTest(Check check, int seed) {
        this.random = new Random(seed);
        this.twin = new Twin(check, "run " + seed + ": ");
        // Some runs keep all exponents close together, so that sums meet, cancel and tie.
        this.spread = new int[] {2047, 2047, 120, 8}[seed % 4];
    }

    public static void main(String[] args) {
        Check check = new Check();
        for (int seed = 0; seed < RUNS; seed++) {
            ModelTest test = new ModelTest(check, seed);
            while (test.twin.callsLeft() > Twin.CALLS_OF_LOOK) {
                test.call();
            }
            test.twin.look(seed / 4 % 8);
            check.same("calls left after run " + seed, test.twin.callsLeft(), 0);
        }
        check.end();
    }

    private void call() {
        int s = sum();
        int other = sum();
        switch (random.nextInt(39)) {
            case 0 -> twin.clear(s);
            case 1, 2, 3, 4, 5, 6, 7, 8, 9, 10 -> twin.add(s, number(), number(), number(), times());
            case 11, 12, 13, 14, 15, 16 -> twin.plus(s, other, times());
            case 17, 18, 19 -> twin.sign(s);
            case 20, 21, 22 -> twin.compare(s, other);
            case 23, 24, 25 -> twin.compareSizes(s, other);
            case 26, 27, 28 -> twin.nearest(s);
            case 29, 30 -> twin.top(s);
            case 31, 32 -> twin.bottom(s);
            case 33, 34, 35 -> twin.bit(s, place(s));
            default -> twin.word(s, place(s));
        }
    }

    private int sum() {
        int draw = random.nextInt(100);
        return draw == 0 ? -1 : draw == 1 ? 8 : draw < 60 ? draw % 3 : draw % 8;
    }

    private int times() {
        int draw = random.nextInt(6);
        return draw < 3 ? SPECIAL_TIMES[random.nextInt(SPECIAL_TIMES.length)]
                : draw == 3 ? random.nextInt(2000001) - 1000000 : random.nextInt(21) - 10;
    }

    private long number() {
        long sign = (long) random.nextInt(2) << 63;
        long fraction = random.nextLong() & (1L << 52) - 1;
        long exponent = spread == 2047 ? random.nextInt(2048) : 1023 - spread + random.nextInt(2 * spread);
        switch (random.nextInt(12)) {
            case 0:
                return sign | random.nextInt(3);
            case 1:
                return sign | fraction;
            case 2:
                return sign | exponent << 52;
            case 3:
                return sign | exponent << 52 | (1L << 52) - 1;
            case 4:
                return sign | exponent << 52 | 1L;
            case 5:
                return sign | (random.nextInt(4) == 0 ? Numbers.INFINITE : Numbers.GREATEST);
            case 6:
            case 7:
                return sign | Numbers.ONE;
            default:
                return sign | exponent << 52 | fraction;
        }
    }

    private int place(int s) {
        int around = random.nextInt(200) - 100;
        boolean known = s >= 0 && s < 8 && twin.model.sums[s].signum() != 0;
        switch (random.nextInt(5)) {
            case 0:
                return known ? twin.model.top(s) + around : around;
            case 1:
                return known ? twin.model.bottom(s) + around : around;
            case 2:
                return random.nextInt();
            default:
                return random.nextInt(6600) - 3300;
        }
    }
}
