/** The numbers with bounds, at the bound itself: such calls are not refused, and do what they are for. */
final class JustInsideTest {
    public static void main(String[] args) {
        Check check = new Check();
        plugSerial(check);
        plugWay(check);
        plugTheLastOne(check);
        unplugEnds(check);
        contractPlaces(check);
        contractNumbers(check);
        contractSum(check);
        contractMost(check);
        contractWeight(check);
        driftSlots(check);
        driftWay(check);
        sendBlocks(check);
        keys(check);
        downAndSpoil(check);
        feeders(check);
        questions(check);
        check.end();
    }

    /** Promise 2: serials 0 .. 9999; the serial of one that is away again is free. */
    private static void plugSerial(Check check) {
        SharedFibre x = new SharedFibre();
        check.is("plug(0, 300)", x.plug(0, 300), 0);
        check.is("plug(9999, 300)", x.plug(9999, 300), 1);
        check.is("plug(1, 300)", x.plug(1, 300), 2);
        check.is("plug(9998, 300)", x.plug(9998, 300), 3);
        x.unplug(1);
        check.is("plug(9999, 300) again", x.plug(9999, 300), 1);
    }

    /** Promise 2: ways 100 .. 600, which a drift shows at the bounds. */
    private static void plugWay(Check check) {
        SharedFibre x = new SharedFibre();
        check.is("plug(0, 100)", x.plug(0, 100), 0);
        check.is("plug(1, 600)", x.plug(1, 600), 1);
        check.argument("shorter than 100", () -> x.drift(0, -1));
        check.argument("longer than 600", () -> x.drift(1, 1));
    }

    /** Promise 2: one is away still, whichever it is, and the least number is taken. */
    private static void plugTheLastOne(Check check) {
        for (int last = 0; last < 5; last++) {
            SharedFibre x = Fibres.unknown(5);
            x.unplug(last);
            check.is("plug when only one is away", x.plug(100, 300), last);
        }
        SharedFibre x = Fibres.unknown(5);
        x.unplug(4);
        x.unplug(2);
        check.is("plug when 2 and 4 are away", x.plug(100, 300), 2);
        check.is("plug when 4 is away", x.plug(101, 300), 4);
    }

    /** Promise 3: units 0 and 4. */
    private static void unplugEnds(Check check) {
        SharedFibre x = Fibres.working(5);
        x.unplug(0);
        x.unplug(4);
        int[] due = {0, 2, 2, 2, 0};
        for (int unit = 0; unit < 5; unit++) {
            check.is("the state of unit " + unit, x.unit(unit, 0), due[unit]);
        }
    }

    /** Promise 4: units 0 and 4, containers 0 and 1. */
    private static void contractPlaces(Check check) {
        SharedFibre x = Fibres.working(5);
        x.contract(0, 0, 1, 0, 1, 1);
        x.contract(0, 1, 2, 0, 2, 1);
        x.contract(4, 0, 3, 0, 3, 1);
        x.contract(4, 1, 4, 0, 4, 1);
        x.frame();
        check.is("container(0, 0, 2)", x.container(0, 0, 2), 1);
        check.is("container(0, 1, 2)", x.container(0, 1, 2), 2);
        check.is("container(4, 0, 2)", x.container(4, 0, 2), 3);
        check.is("container(4, 1, 2)", x.container(4, 1, 2), 4);
    }

    /** Promise 4: fixed and assured 0, most as much as both together, which may be 0. */
    private static void contractNumbers(Check check) {
        int[][] inside = {{0, 0, 0}, {0, 5, 5}, {5, 0, 5}, {4, 5, 9}, {0, 55, 55}, {55, 0, 55}, {0, 0, 60}};
        for (int[] c : inside) {
            SharedFibre x = loaded();
            x.contract(0, 0, c[0], c[1], c[2], 1);
            x.frame();
            String call = "contract of " + c[0] + ", " + c[1] + ", " + c[2];
            check.is(call, x.container(0, 0, 2), Math.min(59, c[2]));
        }
    }

    /** Promise 4: 55 of all containers, by fixed, by assured, by both, and in place of an older contract. */
    private static void contractSum(Check check) {
        int[][] inside = {{55, 0}, {0, 55}, {27, 28}};
        for (int[] c : inside) {
            SharedFibre x = Fibres.unknown(2);
            x.contract(1, 1, 0, 0, 60, 1);
            x.contract(0, 0, c[0], c[1], 60, 1);
            x.contract(0, 0, c[1], c[0], 55, 1);
            check.state("one more", () -> x.contract(1, 1, 1, 0, 60, 1));
        }
        SharedFibre x = Fibres.unknown(5);
        for (int i = 0; i < 9; i++) {
            x.contract(i / 2, i % 2, 2, 3, 5, 1);
        }
        x.contract(4, 1, 10, 0, 10, 1);
        check.state("one more in the first", () -> x.contract(0, 0, 3, 3, 6, 1));
        x.contract(4, 1, 9, 0, 9, 1);
        x.contract(0, 0, 3, 3, 6, 1);
    }

    /** Promise 4: most 60, of which one unit alone can be given 59. */
    private static void contractMost(Check check) {
        SharedFibre x = loaded();
        x.contract(0, 0, 0, 0, 60, 1);
        x.frame();
        check.is("with most 60", x.container(0, 0, 2), 59);
        SharedFibre y = loaded();
        y.contract(0, 0, 0, 0, 58, 1);
        y.frame();
        check.is("with most 58", y.container(0, 0, 2), 58);
        check.is("one is left", y.count(5), 1);
    }

    /** Promise 4: weights 1 and 9. */
    private static void contractWeight(Check check) {
        SharedFibre x = loaded();
        x.contract(0, 0, 0, 0, 60, 1);
        x.contract(0, 1, 9, 0, 60, 9);
        x.frame();
        check.is("weight 1", x.container(0, 0, 2), 5);
        check.is("weight 9", x.container(0, 1, 2), 9 + 45);
    }

    /** Promise 5: slots -2 .. 2. */
    private static void driftSlots(Check check) {
        for (int slots = -2; slots <= 2; slots++) {
            SharedFibre x = Fibres.working(5);
            x.drift(0, slots);
            x.drift(4, slots);
            check.is("the error of unit 0 by " + slots, x.unit(0, 1), slots);
            check.is("the error of unit 4 by " + slots, x.unit(4, 1), slots);
            check.is("the error of unit 1", x.unit(1, 1), 0);
        }
    }

    /** Promise 5: to a way of 100 and of 600, by one slot and by two, and on from there. */
    private static void driftWay(Check check) {
        for (int slots = 0; slots <= 2; slots++) {
            SharedFibre x = new SharedFibre();
            x.plug(0, 100 + slots);
            x.plug(2, 600 - slots);
            x.drift(0, -slots);
            x.drift(1, slots);
            check.argument("below 100", () -> x.drift(0, -1));
            check.argument("above 600", () -> x.drift(1, 1));
            x.drift(0, 1);
            x.drift(1, -1);
            x.drift(0, -1);
            x.drift(1, 1);
        }
    }

    /** Promise 6: 1 and 20 blocks, units 0 and 4, containers 0 and 1. */
    private static void sendBlocks(Check check) {
        SharedFibre x = Fibres.unknown(5);
        check.is("send(0, 0, 1)", x.send(0, 0, 1), 0);
        check.is("send(0, 1, 20)", x.send(0, 1, 20), 1);
        check.is("send(4, 0, 20)", x.send(4, 0, 20), 2);
        check.is("send(4, 1, 1)", x.send(4, 1, 1), 3);
        check.is("container(0, 0, 0)", x.container(0, 0, 0), 1);
        check.is("container(0, 1, 0)", x.container(0, 1, 0), 20);
        check.is("container(4, 0, 0)", x.container(4, 0, 0), 20);
        check.is("container(4, 1, 0)", x.container(4, 1, 0), 1);
    }

    /** Promise 7: keys 0 and 99, units 0 and 4; another one as soon as none waits. */
    private static void keys(Check check) {
        SharedFibre x = Fibres.working(5);
        x.key(0, 99);
        x.key(4, 1);
        x.frame();
        check.is("key 99", x.unit(0, 2), 99);
        check.is("key 1", x.unit(4, 2), 1);
        x.key(0, 0);
        x.key(4, 99);
        x.frame();
        check.is("key 0", x.unit(0, 2), 0);
        check.is("key 0 is told", x.unit(0, 3), 0);
        check.is("key 99 of unit 4", x.unit(4, 2), 99);
    }

    /** Promises 8 and 9: units 0 and 4, and the least and the greatest word. */
    private static void downAndSpoil(Check check) {
        SharedFibre x = Fibres.working(5);
        x.contract(0, 0, 1, 0, 1, 1);
        x.contract(4, 0, 1, 0, 1, 1);
        x.send(0, 0, 1);
        x.send(4, 0, 1);
        x.down(0, Integer.MIN_VALUE);
        x.down(4, Integer.MAX_VALUE);
        x.spoil(0);
        x.spoil(4);
        check.is("nothing comes", x.frame(), 0);
        check.is("both are lost", x.count(1), 2);
        check.is("the least word", x.unit(0, 4), Integer.MIN_VALUE);
        check.is("the greatest word", x.unit(4, 4), Integer.MAX_VALUE);
    }

    /** Promise 10: feeders 0 and 1, cut and whole. */
    private static void feeders(Check check) {
        SharedFibre x = new SharedFibre();
        x.feeder(0, true);
        x.feeder(1, true);
        Fibres.frames(x, 3);
        check.is("both are cut", x.count(3), 0);
        x.feeder(1, false);
        x.frame();
        check.is("feeder 1 is whole", x.count(3), 1);
        x.feeder(1, true);
        x.feeder(0, false);
        Fibres.frames(x, 3);
        check.is("feeder 0 is whole", x.count(3), 0);
    }

    /** Promises 13 to 16: the first and the last number of each question, also of a unit that is away. */
    private static void questions(Check check) {
        SharedFibre x = Scenes.busy();
        check.is("unit(0, 0)", x.unit(0, 0), 2);
        check.is("unit(3, 6)", x.unit(3, 6), 1);
        check.is("unit(4, 0)", x.unit(4, 0), 0);
        check.is("unit(4, 6)", x.unit(4, 6), 0);
        check.is("container(0, 0, 0)", x.container(0, 0, 0), 39);
        check.is("container(1, 1, 3)", x.container(1, 1, 3), 8);
        check.is("container(4, 1, 3)", x.container(4, 1, 3), 0);
        check.is("came(0, 0)", x.came(0, 0), 0);
        check.is("came(0, 3)", x.came(0, 3), 3);
        check.is("count(0)", x.count(0), 1);
        check.is("count(6)", x.count(6), 0);
    }

    /** One working unit with 80 blocks reported of each container, and no contract. */
    private static SharedFibre loaded() {
        SharedFibre x = Fibres.working(1);
        for (int i = 0; i < 8; i++) {
            x.send(0, i % 2, 20);
        }
        x.frame();
        return x;
    }
}
