/** Promise 1: a new object, with all that the terms call 'at first'. */
final class Promise01NewObjectTest {
    public static void main(String[] args) {
        Check check = new Check();
        SharedFibre x = new SharedFibre();
        for (int unit = 0; unit < 5; unit++) {
            for (int what = 0; what < 7; what++) {
                check.is("unit(" + unit + ", " + what + ")", x.unit(unit, what), 0);
            }
            for (int what = 0; what < 4; what++) {
                check.is("container(" + unit + ", 0, " + what + ")", x.container(unit, 0, what), 0);
                check.is("container(" + unit + ", 1, " + what + ")", x.container(unit, 1, what), 0);
            }
        }
        for (int which = 0; which < 7; which++) {
            check.is("count(" + which + ")", x.count(which), 0);
        }
        check.index("came(0, 0)", () -> x.came(0, 0));
        check.is("frame() with feeder 0 whole", x.frame(), 0);
        x.feeder(0, true);
        Fibres.frames(x, 3);
        check.is("the active feeder, as feeder 1 is whole", x.count(3), 1);
        check.is("frame() with feeder 1 whole", x.frame(), 0);
        ownState(check);
        check.end();
    }

    private static void ownState(Check check) {
        SharedFibre x = new SharedFibre();
        SharedFibre y = new SharedFibre();
        x.plug(1, 100);
        x.frame();
        check.is("unit(0, 0) of another object", y.unit(0, 0), 0);
        check.is("count(2) of another object", y.count(2), 0);
    }
}
