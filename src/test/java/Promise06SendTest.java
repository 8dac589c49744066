/** Promise 6: send, with queue, load and datagrams. */
final class Promise06SendTest {
    public static void main(String[] args) {
        Check check = new Check();
        wrongInputs(check);
        fullQueue(check);
        allNumbers(check);
        pieces(check);
        check.end();
    }

    private static void wrongInputs(Check check) {
        SharedFibre x = Fibres.unknown(1);
        check.argument("unit -1", () -> x.send(-1, 0, 1));
        check.argument("unit 5", () -> x.send(5, 0, 1));
        check.argument("a unit that is away", () -> x.send(1, 0, 1));
        check.argument("container -1", () -> x.send(0, -1, 1));
        check.argument("container 2", () -> x.send(0, 2, 1));
        check.argument("0 blocks", () -> x.send(0, 0, 0));
        check.argument("21 blocks", () -> x.send(0, 0, 21));
        check.is("the first number after refusals", x.send(0, 0, 1), 0);
        check.is("the next number", x.send(0, 1, 20), 1);
        check.is("the load of container 0", x.container(0, 0, 0), 1);
        check.is("the load of container 1", x.container(0, 1, 0), 20);
        check.is("nothing is reported yet", x.container(0, 1, 1), 0);
    }

    private static void fullQueue(Check check) {
        SharedFibre x = Fibres.working(1);
        x.contract(0, 0, 1, 0, 1, 1);
        for (int i = 0; i < 8; i++) {
            check.is("number " + i, x.send(0, 0, 2), i);
        }
        check.state("a ninth", () -> x.send(0, 0, 2));
        check.argument("a ninth of 21 blocks", () -> x.send(0, 0, 21));
        check.is("the other container has room", x.send(0, 1, 3), 8);
        x.frame();
        check.is("one sent in part is still in the queue", x.container(0, 0, 3), 8);
        check.state("a ninth behind one sent in part", () -> x.send(0, 0, 2));
        x.frame();
        check.is("one sent whole is not", x.container(0, 0, 3), 7);
        check.is("the next number", x.send(0, 0, 2), 9);
    }

    private static void allNumbers(Check check) {
        SharedFibre x = Fibres.working(1);
        x.contract(0, 0, 8, 0, 8, 1);
        for (int i = 0; i < 100; i++) {
            check.is("number " + i, x.send(0, 0, 1), i);
            if (i % 8 == 7) {
                check.is("frame() after " + i, x.frame(), 8);
            }
        }
        check.state("a datagram behind 100", () -> x.send(0, 0, 1));
        check.state("also in an empty queue", () -> x.send(0, 1, 1));
        check.is("the last four", x.frame(), 4);
        check.is("all came", x.count(0), 100);
        check.is("came(99, 0)", x.came(99, 0), 99);
        check.state("a datagram after all came", () -> x.send(0, 0, 1));
    }

    private static void pieces(Check check) {
        SharedFibre x = Fibres.working(1);
        x.contract(0, 1, 4, 0, 4, 1);
        x.send(0, 1, 6);
        x.send(0, 1, 1);
        x.send(0, 1, 3);
        check.is("frame() with 4 of 6 blocks", x.frame(), 0);
        check.is("the load", x.container(0, 1, 0), 6);
        check.is("the queue", x.container(0, 1, 3), 3);
        check.is("frame() with 2, 1 and 1 blocks", x.frame(), 2);
        check.is("the load of the last in part", x.container(0, 1, 0), 2);
        check.is("the queue has one", x.container(0, 1, 3), 1);
        check.is("frame() with the last 2 blocks", x.frame(), 1);
        check.is("the order of them, first", x.came(0, 0), 0);
        check.is("the order of them, second", x.came(1, 0), 1);
        check.is("the order of them, third", x.came(2, 0), 2);
    }
}
