/** Promise 3: unplug. */
final class Promise03UnplugTest {
    public static void main(String[] args) {
        Check check = new Check();
        SharedFibre x = Fibres.working(2);
        check.argument("unplug(-1)", () -> x.unplug(-1));
        check.argument("unplug(5)", () -> x.unplug(5));
        check.argument("unplug of one never plugged in", () -> x.unplug(2));
        x.contract(0, 0, 10, 20, 40, 2);
        x.send(0, 0, 15);
        x.key(0, 9);
        x.down(0, 77);
        x.frame();
        Fibres.drift(x, 0, 3);
        x.unplug(0);
        for (int what = 0; what < 7; what++) {
            check.is("unit(0, " + what + ")", x.unit(0, what), 0);
        }
        for (int what = 0; what < 4; what++) {
            check.is("container(0, 0, " + what + ")", x.container(0, 0, what), 0);
        }
        check.argument("unplug of one that is away", () -> x.unplug(0));
        check.is("the other unit still works", x.unit(1, 0), 2);
        x.contract(1, 0, 55, 0, 55, 1);
        x.frame();
        check.is("its blocks are free", x.count(5), 60 - 1 - 55);
        check.is("its datagram is not lost", x.count(1), 0);
        check.is("its datagram did not come", x.count(0), 0);
        x.unplug(1);
        check.is("unplug of the second", x.unit(1, 0), 0);
        unknownUnit(check);
        check.end();
    }

    private static void unknownUnit(Check check) {
        SharedFibre x = Fibres.unknown(1);
        x.unplug(0);
        check.is("unplug of an unknown unit", x.unit(0, 0), 0);
        x.discover();
        x.frame();
        check.is("one that is away does not answer", x.unit(0, 0), 0);
    }
}
