/** Promise 5: drift, with way and error. */
final class Promise05DriftTest {
    public static void main(String[] args) {
        Check check = new Check();
        wrongInputs(check);
        wayEdges(check);
        errors(check);
        unknownUnit(check);
        check.end();
    }

    private static void wrongInputs(Check check) {
        SharedFibre x = Fibres.working(1);
        check.argument("unit -1", () -> x.drift(-1, 0));
        check.argument("unit 5", () -> x.drift(5, 0));
        check.argument("a unit that is away", () -> x.drift(1, 0));
        check.argument("drift(0, -3)", () -> x.drift(0, -3));
        check.argument("drift(0, 3)", () -> x.drift(0, 3));
        check.argument("the least int", () -> x.drift(0, Integer.MIN_VALUE));
        check.is("the error after refusals", x.unit(0, 1), 0);
        x.drift(0, 0);
        check.is("the error after drift(0, 0)", x.unit(0, 1), 0);
        x.drift(0, 2);
        check.is("the error after drift(0, 2)", x.unit(0, 1), 2);
        x.drift(0, -1);
        check.is("the error after drift(0, -1)", x.unit(0, 1), 1);
    }

    private static void wayEdges(Check check) {
        SharedFibre x = new SharedFibre();
        x.plug(0, 101);
        x.plug(2, 599);
        check.argument("way 99", () -> x.drift(0, -2));
        x.drift(0, -1);
        check.argument("way 99 from 100", () -> x.drift(0, -1));
        x.drift(0, 0);
        check.argument("way 601", () -> x.drift(1, 2));
        x.drift(1, 1);
        check.argument("way 601 from 600", () -> x.drift(1, 1));
        x.drift(1, -2);
    }

    /** 4 is borne, 5 and 8 are mended, 9 is too much; the same below 0. */
    private static void errors(Check check) {
        for (int sign = -1; sign <= 1; sign += 2) {
            SharedFibre x = Fibres.working(2);
            Fibres.drift(x, 0, 4 * sign);
            x.frame();
            check.is("an error of 4 stays", x.unit(0, 1), 4 * sign);
            Fibres.drift(x, 0, sign);
            check.is("an error of 5 before the frame", x.unit(0, 1), 5 * sign);
            x.frame();
            check.is("an error of 5 is mended", x.unit(0, 1), 0);
            Fibres.drift(x, 0, 8 * sign);
            x.frame();
            check.is("with an error of 8 it still works", x.unit(0, 0), 2);
            check.is("an error of 8 is mended", x.unit(0, 1), 0);
            Fibres.drift(x, 0, 9 * sign);
            check.is("an error of 9 before the frame", x.unit(0, 1), 9 * sign);
            check.is("it works before the frame", x.unit(0, 0), 2);
            x.frame();
            check.is("with an error of 9 it is unknown", x.unit(0, 0), 1);
            check.is("and its error is 0", x.unit(0, 1), 0);
            check.is("count(6)", x.count(6), 1);
            check.is("the other works on", x.unit(1, 0), 2);
        }
    }

    private static void unknownUnit(Check check) {
        SharedFibre x = Fibres.unknown(1);
        Fibres.drift(x, 0, 20);
        check.is("the error of an unknown unit", x.unit(0, 1), 0);
        x.frame();
        check.is("it did not become unknown by its error", x.count(6), 0);
        x.discover();
        x.frame();
        check.is("it works with an error of 0", x.unit(0, 1), 0);
        check.is("its state", x.unit(0, 0), 2);
        Fibres.drift(x, 0, -1);
        check.is("its error counts from there", x.unit(0, 1), -1);
    }
}
