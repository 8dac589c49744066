/** Promise 11: discover, with the quiet frame; the windows are reckoned by hand from the terms. */
final class Promise11DiscoverTest {
    public static void main(String[] args) {
        Check check = new Check();
        alone(check);
        collisions(check);
        answersBeginAnew(check);
        waitsForLight(check);
        quietOnly(check);
        check.end();
    }

    private static void alone(Check check) {
        SharedFibre x = Fibres.unknown(5);
        x.discover();
        check.is("not before the frame", x.unit(0, 0), 1);
        check.is("the quiet frame", x.frame(), -2);
        for (int unit = 0; unit < 5; unit++) {
            check.is("the state of unit " + unit, x.unit(unit, 0), 2);
            check.is("how often unit " + unit + " answered", x.unit(unit, 6), 0);
        }
        check.is("the next is not quiet", x.frame(), 0);
    }

    /** Serials 1 and 3 have the windows 7 5 3 and 7 5 2, serial 6 has 5 7 0, serial 10 has 6. */
    private static void collisions(Check check) {
        SharedFibre x = new SharedFibre();
        x.plug(1, 100);
        x.plug(10, 100);
        x.plug(3, 100);
        x.discover();
        x.discover();
        x.frame();
        states(check, x, "both in window 7", 1, 2, 1);
        check.is("how often unit 0 answered", x.unit(0, 6), 1);
        check.is("how often unit 1 answered", x.unit(1, 6), 0);
        check.is("how often unit 2 answered", x.unit(2, 6), 1);
        check.is("two discovers ask for one quiet frame", x.frame(), 0);
        x.plug(6, 100);
        x.discover();
        x.frame();
        states(check, x, "three in window 5", 1, 2, 1);
        check.is("the state of unit 3", x.unit(3, 0), 1);
        check.is("how often unit 3 answered", x.unit(3, 6), 1);
        x.discover();
        x.frame();
        states(check, x, "windows 3, 2 and 7", 2, 2, 2);
        check.is("the state of unit 3 then", x.unit(3, 0), 2);
        check.is("how often unit 0 answered in all", x.unit(0, 6), 2);
        check.is("how often unit 3 answered in all", x.unit(3, 6), 1);
    }

    private static void states(Check check, SharedFibre x, String when, int first, int second, int third) {
        check.is("state of unit 0, " + when, x.unit(0, 0), first);
        check.is("state of unit 1, " + when, x.unit(1, 0), second);
        check.is("state of unit 2, " + when, x.unit(2, 0), third);
    }

    private static void answersBeginAnew(Check check) {
        SharedFibre x = new SharedFibre();
        x.plug(1, 300);
        x.plug(3, 300);
        for (int i = 0; i < 3; i++) {
            x.discover();
            x.frame();
        }
        check.is("it works", x.unit(0, 0), 2);
        check.is("it answered twice before", x.unit(0, 6), 2);
        Fibres.drift(x, 0, 8);
        x.frame();
        check.is("a mended error leaves that", x.unit(0, 6), 2);
        Fibres.drift(x, 0, 9);
        x.frame();
        check.is("one that became unknown", x.unit(0, 6), 0);
        check.is("the other works on", x.unit(1, 6), 2);
        x.discover();
        x.frame();
        check.is("it is alone now, though working units have its window", x.unit(0, 0), 2);
    }

    private static void waitsForLight(Check check) {
        SharedFibre x = Fibres.unknown(1);
        x.discover();
        x.feeder(0, true);
        for (int i = 0; i < 3; i++) {
            check.is("a dark frame", x.frame(), -1);
        }
        check.is("unknown in the dark", x.unit(0, 0), 1);
        check.is("the next frame that is not dark", x.frame(), -2);
        check.is("found then", x.unit(0, 0), 2);
    }

    private static void quietOnly(Check check) {
        SharedFibre x = Fibres.working(1);
        x.contract(0, 0, 5, 0, 5, 1);
        x.send(0, 0, 3);
        Fibres.drift(x, 0, 9);
        x.discover();
        x.frame();
        check.is("a working unit works on", x.unit(0, 0), 2);
        check.is("with its error", x.unit(0, 1), 9);
        check.is("sends nothing", x.container(0, 0, 0), 3);
        check.is("is given nothing", x.container(0, 0, 2), 0);
        check.is("no map is made", x.count(5), 0);
        check.is("it counts as a frame", x.count(2), 2);
    }
}
