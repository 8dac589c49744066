/** Promise 4: contract. */
final class Promise04ContractTest {
    public static void main(String[] args) {
        Check check = new Check();
        wrongInputs(check);
        edges(check);
        sumOfAll(check);
        contractOnly(check);
        check.end();
    }

    private static void wrongInputs(Check check) {
        SharedFibre x = Fibres.unknown(1);
        check.argument("unit -1", () -> x.contract(-1, 0, 0, 0, 0, 1));
        check.argument("unit 5", () -> x.contract(5, 0, 0, 0, 0, 1));
        check.argument("a unit that is away", () -> x.contract(1, 0, 0, 0, 0, 1));
        check.argument("container -1", () -> x.contract(0, -1, 0, 0, 0, 1));
        check.argument("container 2", () -> x.contract(0, 2, 0, 0, 0, 1));
        check.argument("fixed -1", () -> x.contract(0, 0, -1, 5, 20, 1));
        check.argument("assured -1", () -> x.contract(0, 0, 5, -1, 20, 1));
        check.argument("most -1", () -> x.contract(0, 0, 0, 0, -1, 1));
        check.argument("most less than both", () -> x.contract(0, 0, 5, 6, 10, 1));
        check.argument("most 61", () -> x.contract(0, 0, 0, 0, 61, 1));
        check.argument("weight 0", () -> x.contract(0, 0, 0, 0, 5, 0));
        check.argument("weight 10", () -> x.contract(0, 0, 0, 0, 5, 10));
        check.argument("a sum that wraps", () -> x.contract(0, 0, Integer.MAX_VALUE, Integer.MAX_VALUE, 5, 1));
        check.argument("a bad weight before a sum above 55", () -> x.contract(0, 0, 50, 6, 60, 10));
        check.argument("a bad most before a sum above 55", () -> x.contract(0, 0, 50, 6, 55, 1));
    }

    private static void edges(Check check) {
        SharedFibre x = Fibres.working(1);
        x.contract(0, 0, 0, 0, 0, 1);
        x.contract(0, 0, 0, 0, 60, 9);
        x.contract(0, 0, 30, 25, 55, 1);
        x.contract(0, 0, 5, 6, 11, 1);
        x.frame();
        check.is("the last contract holds", x.container(0, 0, 2), 5);
    }

    private static void sumOfAll(Check check) {
        SharedFibre x = Fibres.unknown(3);
        check.state("56 in one", () -> x.contract(0, 0, 50, 6, 60, 1));
        x.contract(0, 0, 10, 10, 20, 1);
        x.contract(0, 1, 5, 0, 20, 1);
        x.contract(2, 1, 0, 20, 20, 1);
        check.state("56 in all", () -> x.contract(1, 0, 5, 6, 60, 1));
        x.contract(1, 0, 5, 5, 60, 1);
        check.state("one more in the other container", () -> x.contract(1, 1, 1, 0, 60, 1));
        x.contract(0, 0, 20, 0, 60, 1);
        check.state("21 in place of 20", () -> x.contract(0, 0, 0, 21, 60, 1));
        x.unplug(2);
        x.contract(1, 1, 19, 1, 60, 1);
        check.state("one more after that", () -> x.contract(1, 0, 5, 6, 60, 1));
    }

    private static void contractOnly(Check check) {
        SharedFibre x = Fibres.working(1);
        x.contract(0, 0, 2, 0, 10, 1);
        x.send(0, 0, 9);
        x.frame();
        x.contract(0, 0, 0, 3, 3, 1);
        check.is("the queue stays", x.container(0, 0, 3), 1);
        check.is("the load stays", x.container(0, 0, 0), 7);
        check.is("what is reported stays", x.container(0, 0, 1), 7);
        check.is("what the latest map gave stays", x.container(0, 0, 2), 2);
        x.frame();
        check.is("the new contract counts in the next map", x.container(0, 0, 2), 3);
    }
}
