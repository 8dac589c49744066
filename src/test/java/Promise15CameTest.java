/** Promise 15: came. */
final class Promise15CameTest {
    public static void main(String[] args) {
        Check check = new Check();
        SharedFibre x = Fibres.working(2);
        for (int unit = 0; unit < 2; unit++) {
            x.contract(unit, 0, 5, 0, 5, 1);
            x.contract(unit, 1, 5, 0, 5, 1);
        }
        x.send(1, 1, 2);
        x.send(1, 0, 6);
        x.send(0, 1, 3);
        x.send(0, 1, 2);
        x.send(0, 0, 5);
        check.is("frame()", x.frame(), 4);
        check.is("frame() for the rest", x.frame(), 1);
        row(check, x, 0, 4, 0, 0, 2);
        row(check, x, 1, 2, 0, 1, 2);
        row(check, x, 2, 3, 0, 1, 2);
        row(check, x, 3, 0, 1, 1, 2);
        row(check, x, 4, 1, 1, 0, 3);
        check.index("came(5, 0)", () -> x.came(5, 0));
        check.index("came(-1, 0)", () -> x.came(-1, 0));
        check.index("came(5, 4), wrong in both", () -> x.came(5, 4));
        check.index("the greatest int", () -> x.came(Integer.MAX_VALUE, 0));
        check.argument("came(0, 4)", () -> x.came(0, 4));
        check.argument("came(0, -1)", () -> x.came(0, -1));
        x.unplug(0);
        row(check, x, 0, 4, 0, 0, 2);
        check.end();
    }

    private static void row(Check check, SharedFibre x, int k, int... due) {
        for (int what = 0; what < 4; what++) {
            check.is("came(" + k + ", " + what + ")", x.came(k, what), due[what]);
        }
    }
}
