/** None and all: queues, datagrams, units, what came, and the map. */
final class EmptyAndFullTest {
    public static void main(String[] args) {
        Check check = new Check();
        emptyQueue(check);
        fullQueue(check);
        fullQueueInOrder(check);
        queueFilledAgain(check);
        noDatagram(check);
        hundredDatagrams(check);
        hundredOfAllKinds(check);
        allUnitsAway(check);
        noUnitAway(check);
        noneCame(check);
        allCameInOneFrame(check);
        nothingLeftBehindContracts(check);
        nothingLeftBehindAssured(check);
        nothingLeftBehindSpare(check);
        nobodyWants(check);
        check.end();
    }

    /** A queue with none: it is given its fixed blocks, and sends nothing. */
    private static void emptyQueue(Check check) {
        SharedFibre x = Fibres.working(1);
        x.contract(0, 0, 5, 5, 60, 1);
        check.is("frame() with empty queues", x.frame(), 0);
        int[] due = {0, 0, 5, 0};
        for (int what = 0; what < 4; what++) {
            check.is("container(0, 0, " + what + ")", x.container(0, 0, what), due[what]);
        }
        x.spoil(0);
        check.is("frame() with empty queues, spoilt", x.frame(), 0);
        check.is("nothing is lost", x.count(1), 0);
    }

    /** A queue with 8 refuses a ninth, till the first is sent whole; that of the other container has room. */
    private static void fullQueue(Check check) {
        SharedFibre x = Fibres.working(1);
        x.contract(0, 1, 1, 0, 1, 1);
        for (int i = 0; i < 8; i++) {
            check.is("datagrams before number " + i, x.container(0, 1, 3), i);
            check.is("send of number " + i, x.send(0, 1, 2), i);
        }
        check.is("the load of 8", x.container(0, 1, 0), 16);
        check.state("a ninth", () -> x.send(0, 1, 1));
        x.frame();
        check.state("a ninth when the first is sent in part", () -> x.send(0, 1, 1));
        check.is("the other container", x.send(0, 0, 1), 8);
        x.frame();
        check.is("when the first is sent whole", x.send(0, 1, 1), 9);
        check.state("another then", () -> x.send(0, 1, 1));
    }

    /** Of a full queue all come, the first first, each one whole, with the blocks it had. */
    private static void fullQueueInOrder(Check check) {
        SharedFibre x = Fibres.working(1);
        x.contract(0, 0, 36, 0, 36, 1);
        for (int i = 1; i <= 8; i++) {
            x.send(0, 0, i);
        }
        check.is("36 blocks make 8 datagrams", x.frame(), 8);
        check.is("the queue is empty", x.container(0, 0, 3), 0);
        for (int i = 0; i < 8; i++) {
            check.is("came(" + i + ", 0)", x.came(i, 0), i);
        }
        check.is("an empty queue sends no more", x.frame(), 0);
    }

    /** A queue that is filled up behind what is left in it keeps its order and its blocks. */
    private static void queueFilledAgain(Check check) {
        SharedFibre x = Fibres.working(1);
        x.contract(0, 0, 6, 0, 6, 1);
        fill(x, 1);
        check.is("6 of 8 datagrams of one block", x.frame(), 6);
        fill(x, 2);
        check.is("the load behind that", x.container(0, 0, 0), 2 + 6 * 2);
        check.is("the last 2, and 2 of two blocks", x.frame(), 4);
        fill(x, 3);
        check.is("the load then", x.container(0, 0, 0), 4 * 2 + 4 * 3);
        check.is("3 of two blocks", x.frame(), 3);
        check.is("the last of two blocks, one of three, and one in part", x.frame(), 2);
        check.is("what is left of that, one of three, and one in part", x.frame(), 2);
        check.is("the load at the end", x.container(0, 0, 0), 2);
        check.is("the queue at the end", x.container(0, 0, 3), 1);
        for (int k = 0; k < 17; k++) {
            check.is("came(" + k + ", 0)", x.came(k, 0), k);
        }
    }

    private static void fill(SharedFibre x, int blocks) {
        for (int n = x.container(0, 0, 3); n < 8; n++) {
            x.send(0, 0, blocks);
        }
    }

    /** None given to be sent yet: the first number is 0, also after refused ones. */
    private static void noDatagram(Check check) {
        SharedFibre x = Fibres.unknown(1);
        check.argument("a refused one", () -> x.send(0, 0, 0));
        check.is("the first number", x.send(0, 0, 1), 0);
        check.argument("another refused one", () -> x.send(0, 2, 1));
        check.is("the second number", x.send(0, 1, 1), 1);
    }

    /** The hundredth has the number 99; there is none behind it. */
    private static void hundredDatagrams(Check check) {
        SharedFibre x = Fibres.working(1);
        x.contract(0, 0, 8, 0, 8, 1);
        for (int i = 0; i < 99; i++) {
            x.send(0, 0, 1);
            if (i % 8 == 7) {
                x.frame();
            }
        }
        check.is("the hundredth", x.send(0, 1, 20), 99);
        check.state("one behind it, with room in the queue", () -> x.send(0, 0, 1));
        x.frame();
        check.state("one behind it, with an empty queue", () -> x.send(0, 0, 1));
        check.is("99 came", x.count(0), 99);
        check.is("came(98, 0)", x.came(98, 0), 98);
        check.index("came(99, 0)", () -> x.came(99, 0));
    }

    /** Those that were lost and those of units that went away are among the 100. */
    private static void hundredOfAllKinds(Check check) {
        SharedFibre x = Fibres.working(2);
        x.contract(0, 0, 8, 0, 8, 1);
        for (int i = 0; i < 8; i++) {
            x.send(0, 0, 1);
        }
        x.spoil(0);
        x.frame();
        check.is("8 are lost", x.count(1), 8);
        int next = 8;
        while (next < 96) {
            for (int i = 0; i < 8; i++) {
                check.is("send of number " + next, x.send(1, 0, 1), next++);
            }
            x.unplug(1);
            x.plug(2, 300);
        }
        for (int i = 96; i < 100; i++) {
            check.is("send of number " + i, x.send(0, 0, 1), i);
        }
        check.state("one behind 100", () -> x.send(1, 1, 1));
        check.is("the last four come", x.frame(), 4);
        check.is("came(3, 0)", x.came(3, 0), 99);
    }

    /** All five away: each kind of frame passes, and a map has 60 blocks for nobody. */
    private static void allUnitsAway(Check check) {
        SharedFibre x = Fibres.working(5);
        for (int unit = 0; unit < 5; unit++) {
            x.unplug(unit);
        }
        check.is("frame()", x.frame(), 0);
        check.is("a map for nobody", x.count(5), 60);
        x.discover();
        check.is("a quiet frame", x.frame(), -2);
        x.feeder(0, true);
        for (int i = 0; i < 3; i++) {
            check.is("a dark frame", x.frame(), -1);
        }
        check.is("the active feeder", x.count(3), 1);
        for (int unit = 0; unit < 5; unit++) {
            check.is("the state of unit " + unit, x.unit(unit, 0), 0);
        }
        check.is("plug into an empty fibre", x.plug(0, 300), 0);
    }

    /** None away: a sixth is refused; all five work and are given one block less each. */
    private static void noUnitAway(Check check) {
        SharedFibre x = Fibres.unknown(5);
        check.state("a sixth", () -> x.plug(100, 300));
        x.frame();
        check.is("none works", x.count(5), 60);
        x.discover();
        x.frame();
        check.state("a sixth when all work", () -> x.plug(100, 300));
        x.frame();
        check.is("all work", x.count(5), 55);
        for (int left = 4; left >= 0; left--) {
            x.unplug(left);
            x.frame();
            check.is("of those, working: " + left, x.count(5), 60 - left);
        }
    }

    /** None that came: not even the first can be asked for, till it came. */
    private static void noneCame(Check check) {
        SharedFibre x = Fibres.working(1);
        x.contract(0, 0, 1, 0, 1, 1);
        x.send(0, 0, 2);
        check.index("came(0, 0) before any frame", () -> x.came(0, 0));
        x.frame();
        check.index("came(0, 0) of one sent in part", () -> x.came(0, 0));
        x.frame();
        check.is("came(0, 0)", x.came(0, 0), 0);
        check.index("came(1, 0)", () -> x.came(1, 0));
    }

    private static void allCameInOneFrame(Check check) {
        SharedFibre x = Fibres.working(5);
        for (int i = 0; i < 10; i++) {
            x.contract(i / 2, i % 2, 5, 0, 5, 1);
            for (int n = 0; n < 5; n++) {
                x.send(i / 2, i % 2, 1);
            }
        }
        check.is("all 50 come at once", x.frame(), 50);
        for (int k = 0; k < 50; k++) {
            check.is("came(" + k + ", 0)", x.came(k, 0), k);
            check.is("came(" + k + ", 1)", x.came(k, 1), k / 10);
            check.is("came(" + k + ", 2)", x.came(k, 2), k / 5 % 2);
            check.is("came(" + k + ", 3)", x.came(k, 3), 2);
        }
    }

    /** 55 fixed blocks and five units: nothing is left for one that wants. */
    private static void nothingLeftBehindContracts(Check check) {
        SharedFibre x = Fibres.working(5);
        for (int unit = 0; unit < 5; unit++) {
            x.contract(unit, 0, 11, 0, 60, 9);
            x.send(unit, 0, 20);
            x.send(unit, 0, 20);
        }
        Fibres.frames(x, 2);
        for (int unit = 0; unit < 5; unit++) {
            check.is("what unit " + unit + " is given", x.container(unit, 0, 2), 11);
        }
        check.is("nothing is left", x.count(5), 0);
    }

    /** The same by assured blocks, once all of them are reported; with one less, one is left to give. */
    private static void nothingLeftBehindAssured(Check check) {
        for (int last = 10; last <= 11; last++) {
            SharedFibre x = Fibres.working(5);
            for (int unit = 0; unit < 5; unit++) {
                x.contract(unit, 0, 0, unit == 4 ? last : 11, 60, 1);
                x.send(unit, 0, 20);
            }
            x.frame();
            check.is("nothing is reported before", x.count(5), 55);
            x.frame();
            check.is("the first one, beside " + last + " of the last", x.container(0, 0, 2), 11 + 11 - last);
            check.is("the last one", x.container(4, 0, 2), last);
            check.is("nothing is left", x.count(5), 0);
        }
    }

    /** 59 blocks, of which the last is given; with one less that is wanted it is left. */
    private static void nothingLeftBehindSpare(Check check) {
        for (int most = 57; most <= 60; most++) {
            SharedFibre x = Fibres.working(1);
            x.contract(0, 1, 0, 0, most, 1);
            for (int i = 0; i < 4; i++) {
                x.send(0, 1, 20);
            }
            Fibres.frames(x, 2);
            check.is("given with most " + most, x.container(0, 1, 2), Math.min(59, most));
            check.is("left with most " + most, x.count(5), Math.max(0, 59 - most));
        }
    }

    /** Nobody wants: nothing is reported, or it has what is reported, or its most. */
    private static void nobodyWants(Check check) {
        SharedFibre x = Fibres.working(3);
        x.contract(0, 0, 0, 0, 60, 1);
        x.contract(1, 0, 6, 0, 60, 1);
        x.contract(2, 0, 1, 2, 3, 1);
        x.frame();
        check.is("nothing is reported", x.count(5), 57 - 6 - 1);
        x.contract(1, 0, 0, 0, 0, 1);
        x.send(1, 0, 6);
        x.send(2, 0, 20);
        x.frame();
        x.contract(1, 0, 6, 0, 60, 1);
        x.frame();
        check.is("no more than is reported", x.container(1, 0, 2), 6);
        check.is("no more than its most", x.container(2, 0, 2), 3);
        check.is("the rest is for nobody", x.count(5), 57 - 6 - 3);
    }
}
