import java.util.Random;
import java.util.function.IntSupplier;

/** Random runs of calls, wrong ones among them: the class and the plain model answer the same throughout. */
final class RandomRunsTest {
    private static final int RUNS = 500;
    private static final int CALLS = 300;

    private final Check check;
    private final Random random;
    private final SharedFibre x = new SharedFibre();
    private final PlainModel y = new PlainModel();
    private final int seed;

    private RandomRunsTest(Check check, int seed) {
        this.check = check;
        this.seed = seed;
        this.random = new Random(seed);
    }

    public static void main(String[] args) {
        Check check = new Check();
        for (int seed = 0; seed < RUNS; seed++) {
            RandomRunsTest run = new RandomRunsTest(check, seed);
            for (int i = 0; i < CALLS; i++) {
                run.oneCall();
                run.compareAll();
            }
        }
        check.end();
    }

    private int from(int low, int high) {
        return low + random.nextInt(high - low + 1);
    }

    /** Mostly low .. high, now and then one beyond an end. */
    private int about(int low, int high) {
        int dice = random.nextInt(40);
        return dice == 0 ? low - 1 : dice == 1 ? high + 1 : from(low, high);
    }

    private void oneCall() {
        int unit = random.nextInt(3) == 0 ? about(0, 4) : from(0, 2);
        int box = about(0, 1);
        switch (random.nextInt(20)) {
            case 0, 1 -> plug();
            case 2 -> {
                if (random.nextInt(4) == 0) {
                    same("unplug", () -> run(() -> x.unplug(unit)), () -> run(() -> y.unplug(unit)));
                }
            }
            case 3, 4 -> contract(unit, box);
            case 5, 6, 7 -> drift(unit);
            case 8, 9, 10 -> {
                int blocks = about(1, 20);
                same("send", () -> x.send(unit, box, blocks), () -> y.send(unit, box, blocks));
            }
            case 11 -> {
                int key = about(0, 99);
                same("key", () -> run(() -> x.key(unit, key)), () -> run(() -> y.key(unit, key)));
            }
            case 12 -> {
                int word = random.nextInt();
                same("down", () -> run(() -> x.down(unit, word)), () -> run(() -> y.down(unit, word)));
            }
            case 13 -> same("spoil", () -> run(() -> x.spoil(unit)), () -> run(() -> y.spoil(unit)));
            case 14 -> {
                int feeder = about(0, 1);
                boolean cut = random.nextInt(3) == 0;
                same("feeder", () -> run(() -> x.feeder(feeder, cut)), () -> run(() -> y.feeder(feeder, cut)));
            }
            case 15 -> same("discover", () -> run(x::discover), () -> run(y::discover));
            default -> same("frame", x::frame, y::frame);
        }
    }

    private void plug() {
        int serial = random.nextInt(10) == 0 ? about(0, 9999) : from(0, 30);
        int way = random.nextInt(4) == 0 ? from(0, 1) * 500 + 100 : about(100, 600);
        same("plug", () -> x.plug(serial, way), () -> y.plug(serial, way));
    }

    private void contract(int unit, int box) {
        int fixed = about(0, 8);
        int assured = about(0, 12);
        int most = random.nextInt(3) == 0 ? about(fixed + assured, 60) : from(20, 60);
        int weight = about(1, 9);
        same("contract", () -> run(() -> x.contract(unit, box, fixed, assured, most, weight)),
                () -> run(() -> y.contract(unit, box, fixed, assured, most, weight)));
    }

    private void drift(int unit) {
        int slots = about(-2, 2);
        int times = random.nextInt(4) == 0 ? from(2, 6) : 1;
        for (int i = 0; i < times; i++) {
            same("drift", () -> run(() -> x.drift(unit, slots)), () -> run(() -> y.drift(unit, slots)));
        }
    }

    /** Asks all that can be asked, and at times also just beyond the ends. */
    private void compareAll() {
        int beyond = random.nextInt(50) == 0 ? 1 : 0;
        for (int u = -beyond; u < 5 + beyond; u++) {
            int unit = u;
            for (int w = -beyond; w < 7 + beyond; w++) {
                int what = w;
                same("unit " + what, () -> x.unit(unit, what), () -> y.unit(unit, what));
            }
            for (int b = -beyond; b < 2 + beyond; b++) {
                int box = b;
                for (int w = -beyond; w < 4 + beyond; w++) {
                    int what = w;
                    same("container " + what, () -> x.container(unit, box, what), () -> y.container(unit, box, what));
                }
            }
        }
        for (int w = -beyond; w < 7 + beyond; w++) {
            int which = w;
            same("count " + which, () -> x.count(which), () -> y.count(which));
        }
        for (int i = -beyond; i < x.count(0) + beyond; i++) {
            int k = i;
            for (int w = -beyond; w < 4 + beyond; w++) {
                int what = w;
                same("came " + what, () -> x.came(k, what), () -> y.came(k, what));
            }
        }
    }

    private static int run(Runnable body) {
        body.run();
        return 0;
    }

    private void same(String call, IntSupplier got, IntSupplier due) {
        long isDue = answer(due);
        long isGot = answer(got);
        if (isGot != isDue) {
            check.is("run " + seed + ": " + call, isGot, isDue);
        }
    }

    /** The answer, or a number beyond the ints that stands for the exception thrown. */
    private static long answer(IntSupplier body) {
        try {
            return body.getAsInt();
        } catch (IllegalArgumentException e) {
            return 1L << 40;
        } catch (IllegalStateException e) {
            return 2L << 40;
        } catch (IndexOutOfBoundsException e) {
            return 3L << 40;
        }
    }
}
