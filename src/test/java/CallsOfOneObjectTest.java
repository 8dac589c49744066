/** 'What it is': an object is used for at most 512 calls, and up to the last of them all holds. */
final class CallsOfOneObjectTest {
    private static final int CALLS = 512;

    public static void main(String[] args) {
        Check check = new Check();
        framesToTheEnd(check);
        refusedToTheEnd(check);
        darkToTheEnd(check);
        driftToTheEnd(check);
        check.end();
    }

    /** 97 calls fill every queue of five working units; frames follow; the last two calls ask. */
    private static void framesToTheEnd(Check check) {
        SharedFibre x = Fibres.working(5);
        for (int i = 0; i < 10; i++) {
            x.contract(i / 2, i % 2, 2, 3, 60, 1 + i % 9);
        }
        for (int i = 0; i < 80; i++) {
            x.send(i / 16, i / 8 % 2, 20);
        }
        int came = 0;
        for (int call = 97; call < CALLS - 2; call++) {
            came += x.frame();
        }
        check.is("all came, by their frames", came, 80);
        check.is("count(0)", x.count(0), 80);
        check.is("count(2), the last call", x.count(2), 1 + CALLS - 2 - 97);
    }

    private static void refusedToTheEnd(Check check) {
        SharedFibre x = new SharedFibre();
        for (int call = 0; call < CALLS - 1; call++) {
            check.argument("a refused call", () -> x.plug(-1, 300));
        }
        check.is("plug, the last call", x.plug(0, 300), 0);
    }

    /** Both feeders cut for 507 frames: the next one finds feeder 1 whole. */
    private static void darkToTheEnd(Check check) {
        SharedFibre x = new SharedFibre();
        x.feeder(0, true);
        x.feeder(1, true);
        for (int call = 2; call < CALLS - 3; call++) {
            check.is("a dark frame", x.frame(), -1);
        }
        x.feeder(1, false);
        check.is("one more dark frame", x.frame(), -1);
        check.is("the active feeder, the last call", x.count(3), 1);
    }

    /** A working unit from one end of its way to the other between two frames: its error is as much. */
    private static void driftToTheEnd(Check check) {
        SharedFibre x = new SharedFibre();
        x.plug(0, 100);
        x.discover();
        x.frame();
        for (int i = 0; i < 250; i++) {
            x.drift(0, 2);
        }
        check.is("an error of 500", x.unit(0, 1), 500);
        check.argument("no further", () -> x.drift(0, 1));
        for (int i = 0; i < 250; i++) {
            x.drift(0, -2);
        }
        check.is("and back", x.unit(0, 1), 0);
    }
}
