/** Promise 13: unit. */
final class Promise13UnitTest {
    private static final int KEY_0_FRAME_2 = 1013911573;

    public static void main(String[] args) {
        Check check = new Check();
        SharedFibre x = Fibres.working(2);
        x.plug(1, 300);
        x.plug(3, 300);
        x.key(1, 42);
        x.down(1, 1000);
        Fibres.drift(x, 1, -3);
        x.frame();
        int[] due = {2, -3, 42, 42, 1000, 1000 ^ KEY_0_FRAME_2, 0};
        for (int what = 0; what < 7; what++) {
            check.is("unit(1, " + what + ")", x.unit(1, what), due[what]);
        }
        x.discover();
        x.frame();
        check.is("the state of an unknown unit", x.unit(3, 0), 1);
        check.is("how often it answered", x.unit(3, 6), 1);
        check.is("the state of one that is away", x.unit(4, 0), 0);
        wrongInputs(check, x);
        check.end();
    }

    private static void wrongInputs(Check check, SharedFibre x) {
        check.argument("unit(-1, 0)", () -> x.unit(-1, 0));
        check.argument("unit(5, 0)", () -> x.unit(5, 0));
        check.argument("unit(0, -1)", () -> x.unit(0, -1));
        check.argument("unit(0, 7)", () -> x.unit(0, 7));
        check.argument("unit(4, 7) of one that is away", () -> x.unit(4, 7));
    }
}
