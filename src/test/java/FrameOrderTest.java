/** The frame's order, the steps (1) to (6), where one step's outcome shows in the next. */
final class FrameOrderTest {
    private static final int KEY_0_FRAME_2 = 1013911573;
    private static final int KEY_0_FRAME_3 = -627001312;
    private static final int KEY_7_FRAME_3 = -1720613795;

    public static void main(String[] args) {
        Check check = new Check();
        errorsOfBothSigns(check);
        errorBeforeMap(check);
        errorBeforeKeys(check);
        errorBeforeSpoilt(check);
        mapByTheReportBefore(check);
        mapByTheReportOfASpoiltFrame(check);
        mapByLeastSpareAsAFraction(check);
        mapTiesByNumber(check);
        lastBlockOfAFrame(check);
        sentInPart(check);
        hurtInPart(check);
        hurtAtAnEdge(check);
        cameInOrder(check);
        loadReportedBehindSending(check);
        wordBeforeKey(check);
        keyThatWaits(check);
        keyWaitsWhileUnknown(check);
        spoiltOnlyOnce(check);
        check.end();
    }

    /** (1) 4 stays, 5 and 8 are mended, 9 is too much, with both signs, each for itself. */
    private static void errorsOfBothSigns(Check check) {
        int[] errors = {0, 1, 3, 4, 5, 6, 7, 8, 9, 10, 17};
        for (int error : errors) {
            for (int sign = -1; sign <= 1; sign += 2) {
                SharedFibre x = Fibres.working(1);
                Fibres.drift(x, 0, sign * error);
                check.is("before the frame, error " + sign * error, x.unit(0, 1), sign * error);
                check.is("it works before the frame", x.unit(0, 0), 2);
                x.frame();
                check.is("the state by error " + sign * error, x.unit(0, 0), error > 8 ? 1 : 2);
                check.is("the error by error " + sign * error, x.unit(0, 1), error > 4 ? 0 : sign * error);
                check.is("count(6) by error " + sign * error, x.count(6), error > 8 ? 1 : 0);
                x.drift(0, 1);
                int due = error > 8 ? 0 : error > 4 ? 1 : sign * error + 1;
                check.is("a drift behind error " + sign * error, x.unit(0, 1), due);
            }
        }
    }

    /** (1) before (2): one with an error of 9 has no block of this map, and others are given its share. */
    private static void errorBeforeMap(Check check) {
        SharedFibre x = Fibres.working(2);
        x.contract(0, 0, 20, 0, 60, 1);
        x.contract(1, 1, 0, 0, 60, 1);
        for (int i = 0; i < 8; i++) {
            x.send(i % 2, i % 2, 20);
        }
        x.frame();
        Fibres.drift(x, 0, 9);
        x.frame();
        check.is("the unknown one", x.container(0, 0, 2), 0);
        check.is("the other has all but one block", x.container(1, 1, 2), 59);
        check.is("the load of the unknown one", x.container(0, 0, 0), 60);
        Fibres.drift(x, 1, -8);
        x.frame();
        check.is("an error of 8 has its blocks still", x.container(1, 1, 2), 21);
    }

    /** (1) before (6): one that becomes unknown is told nothing; its word and its key wait. */
    private static void errorBeforeKeys(Check check) {
        SharedFibre x = Fibres.working(1);
        x.key(0, 7);
        x.down(0, 70);
        Fibres.drift(x, 0, -9);
        x.frame();
        check.is("the key told", x.unit(0, 3), 0);
        check.is("the key in force", x.unit(0, 2), 0);
        check.is("the word", x.unit(0, 4), 0);
        x.discover();
        x.frame();
        check.is("the word in a quiet frame", x.unit(0, 4), 0);
        x.frame();
        check.is("the word when it works", x.unit(0, 4), 70);
        check.is("the key when it works", x.unit(0, 2), 7);
    }

    /** (1) before (5): one that becomes unknown and is spoilt loses nothing, and is not spoilt behind the frame. */
    private static void errorBeforeSpoilt(Check check) {
        SharedFibre x = Fibres.working(1);
        x.contract(0, 0, 5, 0, 5, 1);
        x.send(0, 0, 5);
        x.spoil(0);
        Fibres.drift(x, 0, 9);
        x.frame();
        check.is("nothing is lost", x.count(1), 0);
        check.is("nothing is sent", x.container(0, 0, 0), 5);
        x.discover();
        x.frame();
        check.is("it comes when it works", x.frame(), 1);
    }

    /** (2) before (5): the map is made by what was reported behind the frame before, not by the load. */
    private static void mapByTheReportBefore(Check check) {
        SharedFibre x = Fibres.working(1);
        x.contract(0, 0, 2, 3, 60, 1);
        x.send(0, 0, 4);
        x.frame();
        check.is("fixed alone", x.container(0, 0, 2), 2);
        x.send(0, 0, 20);
        check.is("2 are reported", x.container(0, 0, 1), 2);
        check.is("frame() by that", x.frame(), 1);
        check.is("no more than 2, though the load is 22", x.container(0, 0, 2), 2);
        x.frame();
        check.is("20 then", x.container(0, 0, 2), 20);
    }

    /** (5) "If the unit was spoilt": the report stays, and the next map is made by the old one. */
    private static void mapByTheReportOfASpoiltFrame(Check check) {
        SharedFibre x = Fibres.working(1);
        x.contract(0, 0, 0, 0, 60, 1);
        x.send(0, 0, 12);
        x.frame();
        x.spoil(0);
        x.frame();
        check.is("all 12 are sent", x.container(0, 0, 0), 0);
        check.is("12 are reported still", x.container(0, 0, 1), 12);
        x.send(0, 0, 15);
        x.frame();
        check.is("12 are given by that", x.container(0, 0, 2), 12);
        check.is("12 of 15 are sent", x.container(0, 0, 0), 3);
        check.is("what is reported then", x.container(0, 0, 1), 3);
    }

    /** (2) Spare by weight as a fraction: for each number of blocks the one that is given the next. */
    private static void mapByLeastSpareAsAFraction(Check check) {
        // The order by weights 2 and 5, by hand: at 0 both, then 1/5, 2/5 against 1/2, and so on.
        int[] order = {0, 1, 1, 1, 0, 1, 1, 0, 1, 1, 1, 0, 1, 1};
        int[] due = new int[2];
        for (int blocks = 1; blocks <= order.length; blocks++) {
            due[order[blocks - 1]]++;
            SharedFibre x = withSpare(blocks);
            check.is("weight 2 of " + blocks, x.container(1, 0, 2), due[0]);
            check.is("weight 5 of " + blocks, x.container(1, 1, 2), due[1]);
        }
    }

    /** A map of five units that has so many blocks left for unit 1 with the weights 2 and 5. */
    private static SharedFibre withSpare(int blocks) {
        SharedFibre x = Fibres.working(5);
        for (int i = 0; i < 4; i++) {
            x.send(1, 0, 20);
            x.send(1, 1, 20);
        }
        x.frame();
        x.contract(0, 0, 55 - blocks, 0, 55 - blocks, 9);
        x.contract(1, 0, 0, 0, 60, 2);
        x.contract(1, 1, 0, 0, 60, 5);
        x.frame();
        return x;
    }

    /** (2) "Of several the one of the unit with the lesser number, of the same unit container 0". */
    private static void mapTiesByNumber(Check check) {
        for (int left = 3; left <= 10; left++) {
            SharedFibre x = Fibres.working(3);
            for (int i = 0; i < 6; i++) {
                x.send(i / 2, i % 2, 20);
            }
            x.frame();
            for (int i = 0; i < 6; i++) {
                x.contract(i / 2, i % 2, 0, 0, 20, 3);
            }
            // Fixed blocks of container 0 of unit 1, which then wants no more.
            x.contract(1, 0, 57 - left - 3, 0, 57 - left - 3, 3);
            x.contract(1, 1, 3, 0, 20, 3);
            x.frame();
            int[] who = {0, 1, 3, 4, 5};
            for (int i = 0; i < 5; i++) {
                int due = left / 5 + (i < left % 5 ? 1 : 0) + (who[i] == 3 ? 3 : 0);
                check.is("of " + left + " for " + who[i], x.container(who[i] / 2, who[i] % 2, 2), due);
            }
        }
    }

    /** (4), (5) A datagram has come with its last block: in this frame if that is given, else in the next. */
    private static void lastBlockOfAFrame(Check check) {
        for (int blocks = 4; blocks <= 6; blocks++) {
            SharedFibre x = Fibres.working(1);
            x.contract(0, 0, 5, 0, 5, 1);
            x.send(0, 0, blocks);
            check.is("frame() for 5 of " + blocks, x.frame(), blocks <= 5 ? 1 : 0);
            check.is("the queue", x.container(0, 0, 3), blocks <= 5 ? 0 : 1);
            check.is("the load", x.container(0, 0, 0), blocks <= 5 ? 0 : 1);
            check.is("frame() for the rest", x.frame(), blocks <= 5 ? 0 : 1);
            check.is("the frame it came in", x.came(0, 3), blocks <= 5 ? 2 : 3);
        }
    }

    /** (4) "Of the first datagram first": one sent in part goes on before the others, in its own container. */
    private static void sentInPart(Check check) {
        SharedFibre x = Fibres.working(1);
        x.contract(0, 0, 3, 0, 3, 1);
        x.contract(0, 1, 1, 0, 1, 1);
        x.send(0, 0, 4);
        x.send(0, 0, 1);
        x.send(0, 1, 2);
        check.is("3 of 4, and 1 of 2", x.frame(), 0);
        check.is("the load of container 0", x.container(0, 0, 0), 2);
        check.is("the load of container 1", x.container(0, 1, 0), 1);
        check.is("the rest of all", x.frame(), 3);
        int[] due = {0, 1, 2};
        for (int k = 0; k < 3; k++) {
            check.is("came(" + k + ", 0)", x.came(k, 0), due[k]);
        }
    }

    /** (5) A datagram that lost its first, a middle or its last block is lost with the last one, and once. */
    private static void hurtInPart(Check check) {
        for (int spoilt = 0; spoilt < 3; spoilt++) {
            SharedFibre x = Fibres.working(1);
            x.contract(0, 0, 2, 0, 2, 1);
            x.send(0, 0, 6);
            x.send(0, 0, 2);
            for (int i = 0; i < 3; i++) {
                check.is("lost before its last block", x.count(1), 0);
                if (i == spoilt) {
                    x.spoil(0);
                }
                check.is("frame() with frame " + spoilt + " spoilt", x.frame(), 0);
            }
            check.is("lost", x.count(1), 1);
            check.is("the next one comes", x.frame(), 1);
            check.is("its number", x.came(0, 0), 1);
            check.is("lost in all", x.count(1), 1);
        }
    }

    /** (5) A spoilt frame with the end of one datagram and the beginning of the next hurts both, and no third. */
    private static void hurtAtAnEdge(Check check) {
        SharedFibre x = Fibres.working(2);
        x.contract(0, 0, 3, 0, 3, 1);
        x.contract(0, 1, 3, 0, 3, 1);
        x.contract(1, 0, 3, 0, 3, 1);
        for (int i = 0; i < 3; i++) {
            x.send(0, 0, 4);
        }
        x.send(0, 1, 12);
        x.send(1, 0, 12);
        x.frame();
        x.spoil(0);
        x.frame();
        check.is("the first is lost", x.count(1), 1);
        check.is("the second is sent, and lost", x.frame(), 0);
        check.is("two are lost", x.count(1), 2);
        check.is("the third and the other unit's come", x.frame(), 2);
        check.is("came(0, 0)", x.came(0, 0), 2);
        check.is("came(1, 0)", x.came(1, 0), 4);
        check.is("also the other container's is lost", x.count(1), 3);
    }

    /** (5) "Unit by unit, container by container", whatever their numbers. */
    private static void cameInOrder(Check check) {
        SharedFibre x = Fibres.working(3);
        for (int i = 5; i >= 0; i--) {
            x.contract(i / 2, i % 2, 4, 0, 4, 1);
            x.send(i / 2, i % 2, 1);
            x.send(i / 2, i % 2, 2);
        }
        check.is("all come", x.frame(), 12);
        for (int k = 0; k < 12; k++) {
            int i = k / 2;
            check.is("came(" + k + ", 0)", x.came(k, 0), 2 * (5 - i) + k % 2);
            check.is("came(" + k + ", 1)", x.came(k, 1), i / 2);
            check.is("came(" + k + ", 2)", x.came(k, 2), i % 2);
            check.is("came(" + k + ", 3)", x.came(k, 3), 2);
        }
    }

    /** (4) before (5): what is reported is the load behind what was sent, of both containers. */
    private static void loadReportedBehindSending(Check check) {
        SharedFibre x = Fibres.working(1);
        x.contract(0, 0, 3, 0, 3, 1);
        x.send(0, 0, 10);
        x.send(0, 1, 6);
        check.is("before the frame", x.container(0, 0, 1), 0);
        x.frame();
        check.is("reported of container 0", x.container(0, 0, 1), 7);
        check.is("reported of container 1, which sent nothing", x.container(0, 1, 1), 6);
    }

    /** (6) A word goes by the key in force, though one waits; the new one is in force from the next frame on. */
    private static void wordBeforeKey(Check check) {
        SharedFibre x = Fibres.working(1);
        x.key(0, 7);
        x.down(0, 0);
        x.frame();
        check.is("by the old key", x.unit(0, 5), KEY_0_FRAME_2);
        x.down(0, 0);
        x.frame();
        check.is("by the new key", x.unit(0, 5), KEY_7_FRAME_3);
    }

    /** (6) A key of a spoilt unit waits on, frame for frame, though the unit has it. */
    private static void keyThatWaits(Check check) {
        SharedFibre x = Fibres.working(1);
        x.key(0, 7);
        x.spoil(0);
        x.frame();
        x.spoil(0);
        x.down(0, 33);
        x.frame();
        check.is("told", x.unit(0, 3), 7);
        check.is("not in force", x.unit(0, 2), 0);
        check.is("the word goes by the old key", x.unit(0, 5), 33 ^ KEY_0_FRAME_3);
        check.is("and is made out", x.unit(0, 4), 33);
        check.state("it waits", () -> x.key(0, 8));
        x.frame();
        check.is("in force", x.unit(0, 2), 7);
        x.key(0, 8);
        check.is("told before the frame", x.unit(0, 3), 7);
        x.frame();
        check.is("the next one in force", x.unit(0, 2), 8);
    }

    /** (6) "For each working unit": a key that the unit has, but that waits, waits while the unit is unknown. */
    private static void keyWaitsWhileUnknown(Check check) {
        SharedFibre x = Fibres.working(1);
        x.key(0, 7);
        x.spoil(0);
        x.frame();
        Fibres.drift(x, 0, 9);
        Fibres.frames(x, 2);
        check.is("not in force", x.unit(0, 2), 0);
        check.state("it waits", () -> x.key(0, 8));
        x.discover();
        x.frame();
        check.is("not by the quiet frame", x.unit(0, 2), 0);
        x.frame();
        check.is("in force when it works", x.unit(0, 2), 7);
    }

    /** "Behind the frame no unit is spoilt": asked for twice, it is for one frame; each unit for itself. */
    private static void spoiltOnlyOnce(Check check) {
        SharedFibre x = Fibres.working(2);
        for (int unit = 0; unit < 2; unit++) {
            x.contract(unit, 0, 1, 0, 1, 1);
            for (int i = 0; i < 3; i++) {
                x.send(unit, 0, 1);
            }
        }
        x.spoil(0);
        x.spoil(0);
        check.is("unit 1's alone", x.frame(), 1);
        check.is("both", x.frame(), 2);
        x.spoil(1);
        check.is("unit 0's alone", x.frame(), 1);
        check.is("lost in all", x.count(1), 2);
    }
}
