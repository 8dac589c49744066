import java.util.Random;
import java.util.function.IntSupplier;

/**
 * Random runs of calls, wrong ones among them: the class and the plain model answer the same throughout. Each run has
 * changes (with some questions between them) and then questions till all is asked, 512 calls at most: what later ones
 * answer is free.
 */
final class RandomRunsTest {
    private static final int RUNS = 3000;
    private static final int CALLS = 512;
    private static final int MOST_CHANGES = 400;

    private final Check check;
    private final Random random;
    private final SharedFibre x = new SharedFibre();
    private final PlainModel y = new PlainModel();
    private final int seed;
    private int calls = 0;

    private RandomRunsTest(Check check, int seed) {
        this.check = check;
        this.seed = seed;
        this.random = new Random(seed);
    }

    public static void main(String[] args) {
        Check check = new Check();
        for (int seed = 0; seed < RUNS; seed++) {
            RandomRunsTest run = new RandomRunsTest(check, seed);
            int changes = run.from(1, MOST_CHANGES);
            while (run.calls < changes) {
                run.oneCall();
            }
            run.askAll();
        }
        check.end();
    }

    private int from(int low, int high) {
        return low + random.nextInt(high - low + 1);
    }

    /** Mostly low .. high, now and then one beyond an end. */
    private int about(int low, int high) {
        int dice = random.nextInt(40);
        return dice == 0 || low > high ? low - 1 : dice == 1 ? high + 1 : from(low, high);
    }

    private void oneCall() {
        int unit = random.nextInt(3) == 0 ? about(0, 4) : from(0, 2);
        int box = about(0, 1);
        switch (random.nextInt(22)) {
            case 0, 1 -> plug();
            case 2 -> {
                if (random.nextInt(4) == 0) {
                    same("unplug", () -> run(() -> x.unplug(unit)), () -> run(() -> y.unplug(unit)));
                }
            }
            case 3, 4 -> contract(unit, box);
            case 5, 6, 7 -> drift(unit);
            case 8, 9, 10 -> {
                int blocks = about(1, 20);
                same("send", () -> x.send(unit, box, blocks), () -> y.send(unit, box, blocks));
            }
            case 11 -> {
                int key = about(0, 99);
                same("key", () -> run(() -> x.key(unit, key)), () -> run(() -> y.key(unit, key)));
            }
            case 12 -> {
                int word = random.nextInt();
                same("down", () -> run(() -> x.down(unit, word)), () -> run(() -> y.down(unit, word)));
            }
            case 13 -> same("spoil", () -> run(() -> x.spoil(unit)), () -> run(() -> y.spoil(unit)));
            case 14 -> {
                int feeder = about(0, 1);
                boolean cut = random.nextInt(3) == 0;
                same("feeder", () -> run(() -> x.feeder(feeder, cut)), () -> run(() -> y.feeder(feeder, cut)));
            }
            case 15 -> same("discover", () -> run(x::discover), () -> run(y::discover));
            case 16, 17 -> question(unit, box);
            default -> same("frame", x::frame, y::frame);
        }
    }

    private void plug() {
        int serial = random.nextInt(10) == 0 ? about(0, 9999) : from(0, 30);
        int way = random.nextInt(4) == 0 ? from(0, 1) * 500 + 100 : about(100, 600);
        same("plug", () -> x.plug(serial, way), () -> y.plug(serial, way));
    }

    private void contract(int unit, int box) {
        int fixed = about(0, 8);
        int assured = about(0, 12);
        int most = random.nextInt(3) == 0 ? about(fixed + assured, 60) : from(20, 60);
        int weight = about(1, 9);
        same("contract", () -> run(() -> x.contract(unit, box, fixed, assured, most, weight)),
                () -> run(() -> y.contract(unit, box, fixed, assured, most, weight)));
    }

    private void drift(int unit) {
        int slots = about(-2, 2);
        int times = random.nextInt(4) == 0 ? from(2, 6) : 1;
        for (int i = 0; i < times; i++) {
            same("drift", () -> run(() -> x.drift(unit, slots)), () -> run(() -> y.drift(unit, slots)));
        }
    }

    private void question(int unit, int box) {
        int what = about(0, 6);
        int k = about(0, y.count(0) - 1);
        switch (random.nextInt(4)) {
            case 0 -> same("unit " + what, () -> x.unit(unit, what), () -> y.unit(unit, what));
            case 1 -> same("container " + what, () -> x.container(unit, box, what), () -> y.container(unit, box, what));
            case 2 -> same("came " + what, () -> x.came(k, what), () -> y.came(k, what));
            default -> same("count " + what, () -> x.count(what), () -> y.count(what));
        }
    }

    private void askAll() {
        for (int i = 0; i < 7; i++) {
            int which = i;
            same("count " + which, () -> x.count(which), () -> y.count(which));
        }
        for (int i = 0; i < 35; i++) {
            int unit = i % 5;
            int what = i / 5;
            same("unit " + what, () -> x.unit(unit, what), () -> y.unit(unit, what));
        }
        for (int i = 0; i < 40; i++) {
            int unit = i % 5;
            int box = i / 5 % 2;
            int what = i / 10;
            same("container " + what, () -> x.container(unit, box, what), () -> y.container(unit, box, what));
        }
        for (int i = 4 * y.count(0) - 1; i >= 0; i--) {
            int k = i / 4;
            int what = i % 4;
            same("came " + what, () -> x.came(k, what), () -> y.came(k, what));
        }
    }

    private static int run(Runnable body) {
        body.run();
        return 0;
    }

    private void same(String call, IntSupplier got, IntSupplier due) {
        if (calls < CALLS) {
            calls++;
            check.is("run " + seed + ", call " + calls + ": " + call, Shown.answer(got), Shown.answer(due));
        }
    }
}
