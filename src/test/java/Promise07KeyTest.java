/** Promise 7: key. */
final class Promise07KeyTest {
    public static void main(String[] args) {
        Check check = new Check();
        wrongInputs(check);
        change(check);
        spoiltChange(check);
        onlyInOrdinaryFrames(check);
        check.end();
    }

    private static void wrongInputs(Check check) {
        SharedFibre x = Fibres.working(2);
        check.argument("unit -1", () -> x.key(-1, 1));
        check.argument("unit 5", () -> x.key(5, 1));
        check.argument("a unit that is away", () -> x.key(2, 1));
        check.argument("key -1", () -> x.key(0, -1));
        check.argument("key 100", () -> x.key(0, 100));
        x.key(0, 99);
        check.state("a second key", () -> x.key(0, 99));
        check.argument("a second key that is none", () -> x.key(0, 100));
        x.key(1, 98);
        x.frame();
        check.is("the key of unit 0", x.unit(0, 2), 99);
        check.is("the key of unit 1", x.unit(1, 2), 98);
    }

    private static void change(Check check) {
        SharedFibre x = Fibres.working(1);
        x.key(0, 7);
        check.is("in force before the frame", x.unit(0, 2), 0);
        check.is("told before the frame", x.unit(0, 3), 0);
        x.frame();
        check.is("in force behind the frame", x.unit(0, 2), 7);
        check.is("told behind the frame", x.unit(0, 3), 7);
        x.key(0, 0);
        x.frame();
        check.is("key 0 in force", x.unit(0, 2), 0);
        check.is("key 0 told", x.unit(0, 3), 0);
    }

    private static void spoiltChange(Check check) {
        SharedFibre x = Fibres.working(1);
        x.key(0, 7);
        x.spoil(0);
        x.frame();
        check.is("in force behind a spoilt frame", x.unit(0, 2), 0);
        check.is("told behind a spoilt frame", x.unit(0, 3), 7);
        check.state("it still waits", () -> x.key(0, 8));
        x.frame();
        check.is("in force behind the next frame", x.unit(0, 2), 7);
        x.key(0, 8);
        check.is("none waited then", x.unit(0, 2), 7);
    }

    private static void onlyInOrdinaryFrames(Check check) {
        SharedFibre x = Fibres.unknown(1);
        x.key(0, 7);
        x.frame();
        check.is("an unknown unit is told nothing", x.unit(0, 3), 0);
        x.discover();
        x.frame();
        check.is("nor in a quiet frame", x.unit(0, 3), 0);
        x.feeder(0, true);
        x.frame();
        check.is("nor in a dark frame", x.unit(0, 3), 0);
        x.feeder(0, false);
        Fibres.drift(x, 0, 9);
        x.frame();
        check.is("nor one that has become unknown", x.unit(0, 3), 0);
        x.discover();
        Fibres.frames(x, 2);
        check.is("but when it works", x.unit(0, 3), 7);
        Fibres.drift(x, 0, 9);
        x.frame();
        check.is("an unknown unit keeps its key in force", x.unit(0, 2), 7);
        check.is("and the key it was told", x.unit(0, 3), 7);
    }
}
