/** Objects to begin a test with. */
final class Fibres {
    // Serials whose windows in the first quiet frame are 0, 1, 2, 3 and 4, so that none is met there.
    private static final int[] SERIALS = {0, 2, 5, 8, 20};

    private Fibres() {
    }

    /** The units 0 .. n - 1 are plugged in (ways 300, 310, ..) and unknown. */
    static SharedFibre unknown(int n) {
        SharedFibre x = new SharedFibre();
        for (int i = 0; i < n; i++) {
            x.plug(SERIALS[i], 300 + 10 * i);
        }
        return x;
    }

    /** The units 0 .. n - 1 work with an error of 0, and frame 1 was the quiet one. */
    static SharedFibre working(int n) {
        SharedFibre x = unknown(n);
        x.discover();
        x.frame();
        return x;
    }

    static void frames(SharedFibre x, int n) {
        for (int i = 0; i < n; i++) {
            x.frame();
        }
    }

    static void drift(SharedFibre x, int unit, int slots) {
        int step = slots < 0 ? -1 : 1;
        for (int i = 0; i != slots; i += step) {
            x.drift(unit, step);
        }
    }
}
