/** Promise 16: count. */
final class Promise16CountTest {
    public static void main(String[] args) {
        Check check = new Check();
        SharedFibre x = Fibres.working(3);
        x.contract(0, 0, 6, 0, 6, 1);
        x.contract(1, 0, 6, 0, 6, 1);
        x.send(0, 0, 6);
        x.send(1, 0, 3);
        x.send(1, 0, 3);
        x.send(0, 0, 1);
        x.spoil(1);
        Fibres.drift(x, 2, 9);
        x.frame();
        x.frame();
        x.feeder(0, true);
        Fibres.frames(x, 3);
        int[] due = {2, 2, 6, 1, 0, 60 - 2 - 12, 1};
        for (int which = 0; which < 7; which++) {
            check.is("count(" + which + ")", x.count(which), due[which]);
        }
        check.argument("count(-1)", () -> x.count(-1));
        check.argument("count(7)", () -> x.count(7));
        x.discover();
        x.frame();
        Fibres.drift(x, 0, -9);
        Fibres.drift(x, 2, -9);
        x.frame();
        check.is("two more became unknown", x.count(6), 3);
        x.unplug(0);
        x.unplug(1);
        x.unplug(2);
        check.is("the latest map stays when units go", x.count(5), 60 - 1 - 6);
        x.frame();
        check.is("a map for nobody", x.count(5), 60);
        check.end();
    }
}
