/** Promise 10: feeder, with dark frames. */
final class Promise10FeederTest {
    public static void main(String[] args) {
        Check check = new Check();
        wrongInputs(check);
        takesOver(check);
        bothCut(check);
        rowBeginsAnew(check);
        check.end();
    }

    private static void wrongInputs(Check check) {
        SharedFibre x = new SharedFibre();
        check.argument("feeder -1", () -> x.feeder(-1, true));
        check.argument("feeder 2", () -> x.feeder(2, false));
        x.feeder(1, true);
        x.feeder(1, true);
        check.is("a cut feeder that is not active", x.frame(), 0);
        x.feeder(0, true);
        x.feeder(0, false);
        check.is("a feeder that is whole again", x.frame(), 0);
    }

    private static void takesOver(Check check) {
        SharedFibre x = Fibres.working(2);
        x.contract(0, 0, 1, 0, 1, 1);
        x.send(0, 0, 2);
        Fibres.drift(x, 0, 3);
        Fibres.drift(x, 1, 9);
        x.feeder(0, true);
        for (int i = 0; i < 3; i++) {
            check.is("the active feeder before dark frame " + i, x.count(3), 0);
            check.is("dark frame " + i, x.frame(), -1);
        }
        check.is("the active feeder", x.count(3), 1);
        check.is("nothing was sent", x.container(0, 0, 0), 2);
        check.is("the error is what it was", x.unit(0, 1), 3);
        check.is("and none was looked at", x.unit(1, 1), 9);
        x.frame();
        check.is("the error by the new feeder", x.unit(0, 1), 3);
        check.is("the other's was too much", x.unit(1, 0), 1);
        x.drift(0, -1);
        check.is("a drift by the new feeder", x.unit(0, 1), 2);
        x.discover();
        x.frame();
        check.is("found by the new feeder", x.unit(1, 0), 2);
        check.is("with an error of 0", x.unit(1, 1), 0);
        x.feeder(0, false);
        check.is("it stays active", x.count(3), 1);
        x.feeder(1, true);
        Fibres.frames(x, 3);
        check.is("back again", x.count(3), 0);
        check.is("the error is what it was again", x.unit(0, 1), 2);
        check.is("the other's too", x.unit(1, 1), 0);
        check.is("dark frames count", x.count(2), 1 + 3 + 2 + 3);
    }

    private static void bothCut(Check check) {
        SharedFibre x = Fibres.working(1);
        x.feeder(0, true);
        x.feeder(1, true);
        Fibres.frames(x, 5);
        check.is("none takes over", x.count(3), 0);
        x.feeder(1, false);
        check.is("not before a frame", x.count(3), 0);
        check.is("a later dark frame", x.frame(), -1);
        check.is("takes over with it", x.count(3), 1);
        x.feeder(1, true);
        x.feeder(0, false);
        Fibres.frames(x, 2);
        check.is("the row begins anew with the new feeder", x.count(3), 1);
        x.frame();
        check.is("till the third", x.count(3), 0);
    }

    private static void rowBeginsAnew(Check check) {
        for (int quiet = 0; quiet < 2; quiet++) {
            SharedFibre x = Fibres.working(1);
            x.feeder(0, true);
            Fibres.frames(x, 2);
            x.feeder(0, false);
            if (quiet == 1) {
                x.discover();
            }
            x.frame();
            x.feeder(0, true);
            Fibres.frames(x, 2);
            check.is("two dark frames behind one that is not", x.count(3), 0);
            x.feeder(0, false);
            x.feeder(0, true);
            x.frame();
            check.is("a third, though it was whole between", x.count(3), 1);
        }
    }
}
