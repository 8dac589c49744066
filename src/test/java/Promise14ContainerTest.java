/** Promise 14: container. */
final class Promise14ContainerTest {
    public static void main(String[] args) {
        Check check = new Check();
        SharedFibre x = Fibres.working(2);
        x.contract(1, 1, 4, 0, 4, 1);
        x.send(1, 1, 6);
        x.send(1, 1, 5);
        x.send(1, 1, 1);
        x.frame();
        x.send(1, 1, 20);
        int[] due = {2 + 5 + 1 + 20, 8, 4, 4};
        for (int what = 0; what < 4; what++) {
            check.is("container(1, 1, " + what + ")", x.container(1, 1, what), due[what]);
            check.is("container(1, 0, " + what + ")", x.container(1, 0, what), 0);
            check.is("container(0, 1, " + what + ")", x.container(0, 1, what), 0);
            check.is("container(4, 1, " + what + ") of one that is away", x.container(4, 1, what), 0);
        }
        x.feeder(0, true);
        x.frame();
        check.is("the latest map is that before a dark frame", x.container(1, 1, 2), 4);
        x.unplug(1);
        for (int what = 0; what < 4; what++) {
            check.is("container(1, 1, " + what + ") when away", x.container(1, 1, what), 0);
        }
        wrongInputs(check, x);
        check.end();
    }

    private static void wrongInputs(Check check, SharedFibre x) {
        check.argument("container(-1, 0, 0)", () -> x.container(-1, 0, 0));
        check.argument("container(5, 0, 0)", () -> x.container(5, 0, 0));
        check.argument("container(0, -1, 0)", () -> x.container(0, -1, 0));
        check.argument("container(0, 2, 0)", () -> x.container(0, 2, 0));
        check.argument("container(0, 0, -1)", () -> x.container(0, 0, -1));
        check.argument("container(0, 0, 4)", () -> x.container(0, 0, 4));
        check.argument("container(4, 2, 0) of one that is away", () -> x.container(4, 2, 0));
        check.argument("container(4, 0, 4) of one that is away", () -> x.container(4, 0, 4));
    }
}
