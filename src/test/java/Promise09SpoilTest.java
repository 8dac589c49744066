/** Promise 9: spoil. */
final class Promise09SpoilTest {
    public static void main(String[] args) {
        Check check = new Check();
        wrongInputs(check);
        lostWhole(check);
        lostInPart(check);
        waitsForAnOrdinaryFrame(check);
        unknownUnit(check);
        check.end();
    }

    private static void wrongInputs(Check check) {
        SharedFibre x = Fibres.working(1);
        check.argument("unit -1", () -> x.spoil(-1));
        check.argument("unit 5", () -> x.spoil(5));
        check.argument("a unit that is away", () -> x.spoil(1));
    }

    private static void lostWhole(Check check) {
        SharedFibre x = Fibres.working(2);
        x.contract(0, 0, 3, 0, 3, 1);
        x.contract(1, 0, 3, 0, 3, 1);
        x.send(0, 0, 2);
        x.send(1, 0, 2);
        x.spoil(0);
        check.is("frame(): the other's comes", x.frame(), 1);
        check.is("came(0, 1)", x.came(0, 1), 1);
        check.is("count(1)", x.count(1), 1);
        check.is("it is sent all the same", x.container(0, 0, 3), 0);
        x.send(0, 0, 3);
        check.is("it is not spoilt in the next frame", x.frame(), 1);
        check.is("count(1) stays", x.count(1), 1);
    }

    private static void lostInPart(Check check) {
        SharedFibre x = Fibres.working(1);
        x.contract(0, 0, 2, 0, 2, 1);
        x.send(0, 0, 5);
        x.send(0, 0, 1);
        x.frame();
        check.is("reported behind a good frame", x.container(0, 0, 1), 4);
        x.spoil(0);
        x.spoil(0);
        x.frame();
        check.is("reported behind a spoilt frame", x.container(0, 0, 1), 4);
        check.is("the load behind a spoilt frame", x.container(0, 0, 0), 2);
        check.is("not all were sent yet", x.count(1), 0);
        check.is("the last block and the next datagram", x.frame(), 1);
        check.is("lost, as some block was", x.count(1), 1);
        check.is("the next one came", x.came(0, 0), 1);
        check.is("reported again", x.container(0, 0, 1), 0);
    }

    private static void waitsForAnOrdinaryFrame(Check check) {
        SharedFibre x = Fibres.working(1);
        x.contract(0, 0, 2, 0, 2, 1);
        x.send(0, 0, 2);
        x.spoil(0);
        x.feeder(0, true);
        x.frame();
        x.feeder(0, false);
        x.discover();
        check.is("a quiet frame", x.frame(), -2);
        check.is("nothing was sent", x.container(0, 0, 0), 2);
        check.is("a spoilt frame", x.frame(), 0);
        check.is("count(1)", x.count(1), 1);
    }

    private static void unknownUnit(Check check) {
        SharedFibre x = Fibres.unknown(1);
        x.contract(0, 0, 2, 0, 2, 1);
        x.send(0, 0, 2);
        x.spoil(0);
        x.frame();
        check.is("nothing is sent by an unknown unit", x.container(0, 0, 0), 2);
        x.discover();
        x.frame();
        check.is("it is not spoilt any more", x.frame(), 1);
    }
}
