/** Promise 2: plug. */
final class Promise02PlugTest {
    public static void main(String[] args) {
        Check check = new Check();
        numbers(check);
        wrongInputs(check);
        freshUnit(check);
        freshAnswersAndQueue(check);
        check.end();
    }

    private static void numbers(Check check) {
        SharedFibre x = new SharedFibre();
        check.is("plug(0, 100)", x.plug(0, 100), 0);
        check.is("plug(9999, 600)", x.plug(9999, 600), 1);
        check.is("plug(2, 300)", x.plug(2, 300), 2);
        check.is("plug(3, 300)", x.plug(3, 300), 3);
        check.is("plug(4, 300)", x.plug(4, 300), 4);
        check.is("unit(4, 0)", x.unit(4, 0), 1);
        check.state("plug of a sixth", () -> x.plug(5, 300));
        check.argument("plug of a sixth with a bad serial", () -> x.plug(4, 300));
        check.argument("plug of a sixth with a bad way", () -> x.plug(5, 99));
        x.unplug(3);
        x.unplug(1);
        check.is("plug takes the least number", x.plug(9999, 300), 1);
        check.is("plug takes the next number", x.plug(1, 300), 3);
    }

    private static void wrongInputs(Check check) {
        SharedFibre x = new SharedFibre();
        check.argument("plug(-1, 300)", () -> x.plug(-1, 300));
        check.argument("plug(10000, 300)", () -> x.plug(10000, 300));
        check.argument("plug(1, 99)", () -> x.plug(1, 99));
        check.argument("plug(1, 601)", () -> x.plug(1, 601));
        check.is("unit(0, 0) after refusals", x.unit(0, 0), 0);
        x.plug(1, 300);
        check.argument("plug with the serial of an unknown unit", () -> x.plug(1, 300));
        x.discover();
        x.frame();
        check.argument("plug with the serial of a working unit", () -> x.plug(1, 300));
        x.unplug(0);
        check.is("plug with the serial of one that is away", x.plug(1, 300), 0);
    }

    private static void freshUnit(Check check) {
        SharedFibre x = usedAndUnplugged();
        x.plug(0, 600);
        check.is("the state of a unit plugged in again", x.unit(0, 0), 1);
        for (int what = 1; what < 7; what++) {
            check.is("unit(0, " + what + ") of a unit plugged in again", x.unit(0, what), 0);
        }
        for (int what = 0; what < 4; what++) {
            check.is("container(0, 0, " + what + ") plugged in again", x.container(0, 0, what), 0);
        }
        x.key(0, 4);
        x.discover();
        x.frame();
        check.is("it works with an error of 0", x.unit(0, 1), 0);
        x.send(0, 0, 20);
        x.frame();
        check.is("no word waits", x.unit(0, 5), 0);
        check.is("it is not spoilt", x.container(0, 0, 1), 20);
        check.is("nor is its key held back", x.unit(0, 2), 4);
        x.frame();
        check.is("it has no contract", x.container(0, 0, 2), 0);
    }

    /** Serials 1 and 3 have the same windows twice, serial 0 has none of theirs. */
    private static void freshAnswersAndQueue(Check check) {
        SharedFibre x = new SharedFibre();
        x.plug(1, 300);
        x.plug(3, 300);
        x.discover();
        x.frame();
        x.unplug(0);
        x.plug(0, 300);
        check.is("how often one plugged in again answered", x.unit(0, 6), 0);
        x.discover();
        x.frame();
        x.contract(0, 0, 1, 0, 1, 1);
        x.send(0, 0, 2);
        x.spoil(0);
        x.frame();
        x.unplug(0);
        x.plug(0, 300);
        x.discover();
        x.frame();
        x.contract(0, 0, 1, 0, 1, 1);
        x.send(0, 0, 1);
        check.is("a datagram behind one that was hurt before", x.frame(), 1);
        check.is("none is lost", x.count(1), 0);
    }

    private static SharedFibre usedAndUnplugged() {
        SharedFibre x = Fibres.working(1);
        x.contract(0, 0, 3, 4, 30, 5);
        x.send(0, 0, 20);
        x.key(0, 9);
        x.down(0, 77);
        Fibres.drift(x, 0, 3);
        x.frame();
        x.key(0, 8);
        x.down(0, 78);
        x.spoil(0);
        x.unplug(0);
        return x;
    }
}
