/**
 * Promises 2 to 10: each condition of each sentence that begins with an exception's name, by itself, just outside of
 * its bound. Every call here is made on objects that are alike but for it, and must leave no trace.
 */
final class RefusedChangesTest {
    private static final int LEAST = Integer.MIN_VALUE;
    private static final int GREATEST = Integer.MAX_VALUE;

    public static void main(String[] args) {
        Check check = new Check();
        Refused r = new Refused(check, Scenes::busy, Scenes::narrow, Scenes::asked, Scenes::dark);
        plug(r);
        plugWhenNoneIsAway(new Refused(check, Scenes::full, Scenes::fullAndDark));
        unplug(r);
        contractPlace(r);
        contractNumbers(r);
        contractSum(r);
        drift(r);
        send(r);
        sendTheHundredAndFirst(new Refused(check, Scenes::hundred));
        key(r);
        down(r);
        spoil(r);
        feeder(r);
        check.end();
    }

    /** Promise 2: "serial is not 0 .. 9999 or that of another one that is not away, or way is not 100 .. 600". */
    private static void plug(Refused r) {
        r.argument("plug(-1, 300)", x -> x.plug(-1, 300));
        r.argument("plug(10000, 300)", x -> x.plug(10000, 300));
        r.argument("plug of the least serial", x -> x.plug(LEAST, 300));
        r.argument("plug of the greatest serial", x -> x.plug(GREATEST, 300));
        r.argument("plug of a working unit's serial", x -> x.plug(2, 300));
        r.argument("plug of an unknown unit's serial", x -> x.plug(3, 300));
        r.argument("plug(9, 99)", x -> x.plug(9, 99));
        r.argument("plug(9, 601)", x -> x.plug(9, 601));
        r.argument("plug with the least way", x -> x.plug(9, LEAST));
        r.argument("plug with the greatest way", x -> x.plug(9, GREATEST));
    }

    /** Promise 2: "IllegalStateException: none is away". */
    private static void plugWhenNoneIsAway(Refused r) {
        r.state("plug of a sixth", x -> x.plug(9, 300));
        r.state("plug of a sixth at one bound", x -> x.plug(9999, 100));
        r.state("plug of a sixth at the other bound", x -> x.plug(9999, 600));
        r.argument("plug of a sixth with a serial that is there", x -> x.plug(0, 300));
    }

    /** Promise 3: "there is no such unit, or it is" (away). */
    private static void unplug(Refused r) {
        r.argument("unplug(-1)", x -> x.unplug(-1));
        r.argument("unplug(5)", x -> x.unplug(5));
        r.argument("unplug of the least", x -> x.unplug(LEAST));
        r.argument("unplug of the greatest", x -> x.unplug(GREATEST));
        r.argument("unplug of one that is away", x -> x.unplug(4));
    }

    /** Promise 4: "there is no such unit (that is not away) or container". */
    private static void contractPlace(Refused r) {
        r.argument("contract for unit -1", x -> x.contract(-1, 0, 1, 1, 9, 4));
        r.argument("contract for unit 5", x -> x.contract(5, 0, 1, 1, 9, 4));
        r.argument("contract for the least unit", x -> x.contract(LEAST, 0, 1, 1, 9, 4));
        r.argument("contract for the greatest unit", x -> x.contract(GREATEST, 0, 1, 1, 9, 4));
        r.argument("contract for one that is away", x -> x.contract(4, 0, 1, 1, 9, 4));
        r.argument("contract for container -1", x -> x.contract(0, -1, 1, 1, 9, 4));
        r.argument("contract for container 2", x -> x.contract(0, 2, 1, 1, 9, 4));
        r.argument("contract for the least container", x -> x.contract(0, LEAST, 1, 1, 9, 4));
        r.argument("contract for the greatest container", x -> x.contract(0, GREATEST, 1, 1, 9, 4));
    }

    /** Promise 4: "fixed or assured is below 0, most less than both together, or above 60, or weight not 1 .. 9". */
    private static void contractNumbers(Refused r) {
        r.argument("contract with fixed -1", x -> x.contract(0, 0, -1, 1, 9, 4));
        r.argument("contract with the least fixed", x -> x.contract(0, 0, LEAST, 1, 9, 4));
        r.argument("contract with assured -1", x -> x.contract(0, 0, 1, -1, 9, 4));
        r.argument("contract with the least assured", x -> x.contract(0, 0, 1, LEAST, 9, 4));
        r.argument("contract with both below 0", x -> x.contract(0, 0, LEAST, LEAST, 9, 4));
        r.argument("contract with most one less than both", x -> x.contract(0, 0, 4, 5, 8, 4));
        r.argument("contract with most one less than fixed", x -> x.contract(0, 0, 5, 0, 4, 4));
        r.argument("contract with most one less than assured", x -> x.contract(0, 0, 0, 5, 4, 4));
        r.argument("contract with most -1", x -> x.contract(0, 0, 0, 0, -1, 4));
        r.argument("contract with the least most", x -> x.contract(0, 0, 0, 0, LEAST, 4));
        r.argument("contract with both so great that they wrap", x -> x.contract(0, 0, GREATEST, GREATEST, 9, 4));
        r.argument("contract with both so great that they wrap to 0", x -> x.contract(0, 0, GREATEST, 1, 9, 4));
        r.argument("contract with most 61", x -> x.contract(0, 0, 1, 1, 61, 4));
        r.argument("contract with the greatest most", x -> x.contract(0, 0, 1, 1, GREATEST, 4));
        r.argument("contract with weight 0", x -> x.contract(0, 0, 1, 1, 9, 0));
        r.argument("contract with weight 10", x -> x.contract(0, 0, 1, 1, 9, 10));
        r.argument("contract with the least weight", x -> x.contract(0, 0, 1, 1, 9, LEAST));
        r.argument("contract with the greatest weight", x -> x.contract(0, 0, 1, 1, 9, GREATEST));
    }

    /** Promise 4: "fixed and assured of all containers would be more than 55"; 17 are there, 8 of them in (0, 0). */
    private static void contractSum(Refused r) {
        int left = Scenes.CONTRACTS_LEFT;
        r.state("contract for 56 by fixed", x -> x.contract(3, 0, left + 1, 0, 60, 4));
        r.state("contract for 56 by assured", x -> x.contract(3, 1, 0, left + 1, 60, 4));
        r.state("contract for 56 by both", x -> x.contract(1, 0, left, 1, 60, 4));
        r.state("contract for 56 in place of an older one", x -> x.contract(0, 0, left, 9, 60, 4));
        r.state("contract for 60 alone", x -> x.contract(0, 0, 30, 30, 60, 4));
    }

    /** Promise 5: "there is no such unit (that is not away), slots is not -2 .. 2, or it would not be 100 .. 600". */
    private static void drift(Refused r) {
        r.argument("drift(-1, 0)", x -> x.drift(-1, 0));
        r.argument("drift(5, 0)", x -> x.drift(5, 0));
        r.argument("drift of the least unit", x -> x.drift(LEAST, 0));
        r.argument("drift of the greatest unit", x -> x.drift(GREATEST, 0));
        r.argument("drift of one that is away", x -> x.drift(4, 0));
        r.argument("drift(0, 3)", x -> x.drift(0, 3));
        r.argument("drift(1, -3)", x -> x.drift(1, -3));
        r.argument("drift by the least", x -> x.drift(1, LEAST));
        r.argument("drift by the greatest", x -> x.drift(0, GREATEST));
        r.argument("drift of a working unit to 99", x -> x.drift(0, -1));
        r.argument("drift of a working unit to 98", x -> x.drift(0, -2));
        r.argument("drift of a working unit to 601", x -> x.drift(1, 1));
        r.argument("drift of a working unit to 602", x -> x.drift(1, 2));
        r.argument("drift of an unknown unit to 99", x -> x.drift(2, -1));
        r.argument("drift of an unknown unit to 601", x -> x.drift(3, 1));
    }

    /** Promise 6: "no such unit (that is not away) or container, or blocks is not 1 .. 20"; "the queue has 8". */
    private static void send(Refused r) {
        r.argument("send(-1, 0, 5)", x -> x.send(-1, 0, 5));
        r.argument("send(5, 0, 5)", x -> x.send(5, 0, 5));
        r.argument("send for the least unit", x -> x.send(LEAST, 0, 5));
        r.argument("send for the greatest unit", x -> x.send(GREATEST, 0, 5));
        r.argument("send for one that is away", x -> x.send(4, 0, 5));
        r.argument("send(0, -1, 5)", x -> x.send(0, -1, 5));
        r.argument("send(0, 2, 5)", x -> x.send(0, 2, 5));
        r.argument("send for the least container", x -> x.send(0, LEAST, 5));
        r.argument("send for the greatest container", x -> x.send(0, GREATEST, 5));
        r.argument("send(0, 0, 0)", x -> x.send(0, 0, 0));
        r.argument("send(0, 0, 21)", x -> x.send(0, 0, 21));
        r.argument("send of the least blocks", x -> x.send(0, 0, LEAST));
        r.argument("send of the greatest blocks", x -> x.send(0, 0, GREATEST));
        r.state("send of 1 block to a full queue", x -> x.send(1, 1, 1));
        r.state("send of 20 blocks to a full queue", x -> x.send(1, 1, 20));
        r.argument("send of 21 blocks to a full queue", x -> x.send(1, 1, 21));
    }

    /** Promise 6: "or there were 100". */
    private static void sendTheHundredAndFirst(Refused r) {
        r.state("send of a datagram behind 100", x -> x.send(0, 0, 1));
        r.state("send of a datagram behind 100 to an empty queue", x -> x.send(1, 0, 20));
        r.argument("send of none behind 100", x -> x.send(0, 0, 0));
    }

    /** Promise 7: "there is no such unit (that is not away), or key is not 0 .. 99"; "one waits". */
    private static void key(Refused r) {
        r.argument("key(-1, 5)", x -> x.key(-1, 5));
        r.argument("key(5, 5)", x -> x.key(5, 5));
        r.argument("key for the least unit", x -> x.key(LEAST, 5));
        r.argument("key for the greatest unit", x -> x.key(GREATEST, 5));
        r.argument("key for one that is away", x -> x.key(4, 5));
        r.argument("key(2, -1)", x -> x.key(2, -1));
        r.argument("key(2, 100)", x -> x.key(2, 100));
        r.argument("the least key", x -> x.key(2, LEAST));
        r.argument("the greatest key", x -> x.key(2, GREATEST));
        r.state("a key behind one that waits", x -> x.key(0, 5));
        r.state("the same key as the one that waits", x -> x.key(0, 8));
        r.state("a key behind one that the unit has, but that waits", x -> x.key(1, 5));
        r.argument("no key behind one that waits", x -> x.key(0, 100));
    }

    /** Promise 8: "there is no such unit (that is not away)". */
    private static void down(Refused r) {
        r.argument("down(-1, 5)", x -> x.down(-1, 5));
        r.argument("down(5, 5)", x -> x.down(5, 5));
        r.argument("down to the least unit", x -> x.down(LEAST, 5));
        r.argument("down to the greatest unit", x -> x.down(GREATEST, 5));
        r.argument("down to one that is away", x -> x.down(4, 5));
    }

    /** Promise 9: "there is no such unit (that is not away)". */
    private static void spoil(Refused r) {
        r.argument("spoil(-1)", x -> x.spoil(-1));
        r.argument("spoil(5)", x -> x.spoil(5));
        r.argument("spoil of the least unit", x -> x.spoil(LEAST));
        r.argument("spoil of the greatest unit", x -> x.spoil(GREATEST));
        r.argument("spoil of one that is away", x -> x.spoil(4));
    }

    /** Promise 10: "there is none such". */
    private static void feeder(Refused r) {
        for (boolean cut : new boolean[] {false, true}) {
            r.argument("feeder(-1, " + cut + ")", x -> x.feeder(-1, cut));
            r.argument("feeder(2, " + cut + ")", x -> x.feeder(2, cut));
            r.argument("the least feeder, " + cut, x -> x.feeder(LEAST, cut));
            r.argument("the greatest feeder, " + cut, x -> x.feeder(GREATEST, cut));
        }
    }
}
