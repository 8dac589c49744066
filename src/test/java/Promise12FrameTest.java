/** Promise 12: frame, with the map and the order of the frame. */
final class Promise12FrameTest {
    public static void main(String[] args) {
        Check check = new Check();
        answers(check);
        fixedAndAssured(check);
        assuredBeforeWeight(check);
        byWeight(check);
        spareOfOneMap(check);
        mostAndReported(check);
        errorsBeforeTheMap(check);
        reportsStay(check);
        nothingMeets(check);
        check.end();
    }

    private static void answers(Check check) {
        SharedFibre x = new SharedFibre();
        check.is("a frame without units", x.frame(), 0);
        check.is("60 blocks for nobody", x.count(5), 60);
        x.discover();
        check.is("a quiet frame", x.frame(), -2);
        x.feeder(0, true);
        x.discover();
        check.is("a dark frame, though a quiet one was asked for", x.frame(), -1);
        check.is("the latest map is older", x.count(5), 60);
        check.is("frames", x.count(2), 3);
    }

    private static void fixedAndAssured(Check check) {
        SharedFibre x = Fibres.working(1);
        x.contract(0, 0, 4, 6, 10, 1);
        x.contract(0, 1, 3, 0, 3, 1);
        x.frame();
        check.is("fixed though nothing is reported", x.container(0, 0, 2), 4);
        check.is("fixed of the other container", x.container(0, 1, 2), 3);
        check.is("60 less one less 7", x.count(5), 52);
        for (int reported = 3; reported <= 12; reported++) {
            SharedFibre y = Fibres.working(1);
            y.contract(0, 0, 0, 0, 0, 1);
            y.send(0, 0, reported);
            y.frame();
            y.contract(0, 0, 4, 6, 10, 1);
            y.frame();
            int due = Math.max(4, Math.min(10, reported));
            check.is("4 fixed, 6 assured, reported " + reported, y.container(0, 0, 2), due);
            check.is("left with reported " + reported, y.count(5), 59 - due);
        }
        onlyWhatIsReported(check);
    }

    private static void onlyWhatIsReported(Check check) {
        SharedFibre x = Fibres.working(1);
        x.contract(0, 0, 0, 6, 60, 1);
        x.send(0, 0, 10);
        check.is("nothing is reported yet", x.frame(), 0);
        check.is("so nothing is given", x.container(0, 0, 2), 0);
        x.send(0, 0, 10);
        check.is("what is reported comes", x.frame(), 1);
        check.is("10 are given", x.container(0, 0, 2), 10);
        check.is("10 are reported", x.container(0, 0, 1), 10);
    }

    /** 2 fixed and 10 assured against one of a weight of 9, which both want all they can get. */
    private static void assuredBeforeWeight(Check check) {
        SharedFibre x = Fibres.working(2);
        x.contract(0, 0, 2, 10, 60, 1);
        x.contract(1, 0, 0, 0, 60, 9);
        for (int i = 0; i < 4; i++) {
            x.send(0, 0, 20);
            x.send(1, 0, 20);
        }
        Fibres.frames(x, 2);
        // 46 spare blocks: 4 and 36 make a tie, then one and five.
        check.is("fixed, assured and spare", x.container(0, 0, 2), 2 + 10 + 5);
        check.is("spare alone", x.container(1, 0, 2), 41);
    }

    /** What was spare in one map does not count in the next. */
    private static void spareOfOneMap(Check check) {
        SharedFibre x = Fibres.working(2);
        x.contract(0, 0, 0, 0, 60, 1);
        x.contract(1, 0, 0, 0, 60, 1);
        sendFour(x, 0);
        Fibres.frames(x, 2);
        check.is("all for the one that wants", x.container(0, 0, 2), 58);
        sendFour(x, 0);
        sendFour(x, 1);
        Fibres.frames(x, 2);
        check.is("half of it", x.container(0, 0, 2), 29);
        check.is("the other half", x.container(1, 0, 2), 29);
    }

    private static void sendFour(SharedFibre x, int unit) {
        for (int i = 0; i < 4; i++) {
            x.send(unit, 0, 20);
        }
    }

    /** Three that want everything, by weights 1, 2 and 3, and fixed blocks that are no spare ones. */
    private static void byWeight(Check check) {
        SharedFibre x = Fibres.working(3);
        x.contract(0, 0, 0, 0, 60, 1);
        x.contract(0, 1, 0, 0, 60, 2);
        x.contract(2, 1, 10, 0, 60, 3);
        for (int i = 0; i < 4; i++) {
            x.send(0, 0, 20);
            x.send(0, 1, 20);
            x.send(2, 1, 20);
        }
        Fibres.frames(x, 2);
        // 47 spare blocks: 7, 14 and 21 of them make a tie at 7; the other five go to the
        // weights 1, 2, 3 (each at 7), 3 (at 22 / 3) and 2 (at 15 / 2).
        check.is("weight 1", x.container(0, 0, 2), 8);
        check.is("weight 2", x.container(0, 1, 2), 16);
        check.is("weight 3 beside 10 fixed", x.container(2, 1, 2), 10 + 23);
        check.is("nothing is left", x.count(5), 0);
        ties(check);
    }

    /** Equal weights and an odd number: the lesser unit first, of one unit container 0. */
    private static void ties(Check check) {
        SharedFibre x = Fibres.working(2);
        for (int unit = 0; unit < 2; unit++) {
            for (int container = 0; container < 2; container++) {
                x.contract(unit, container, 0, 0, 60, 4);
                x.send(unit, container, 20);
            }
        }
        x.contract(1, 1, 3, 0, 3, 4);
        Fibres.frames(x, 2);
        // 55 spare blocks for three.
        check.is("unit 0, container 0", x.container(0, 0, 2), 19);
        check.is("unit 0, container 1", x.container(0, 1, 2), 18);
        check.is("unit 1, container 0", x.container(1, 0, 2), 18);
        check.is("unit 1, container 1", x.container(1, 1, 2), 3);
    }

    private static void mostAndReported(Check check) {
        SharedFibre x = Fibres.working(2);
        x.contract(0, 0, 2, 0, 5, 9);
        x.contract(1, 0, 0, 0, 60, 1);
        x.send(0, 0, 20);
        x.send(1, 0, 7);
        Fibres.frames(x, 2);
        check.is("no more than most", x.container(0, 0, 2), 5);
        check.is("no more than is reported", x.container(1, 0, 2), 7);
        check.is("the rest is left", x.count(5), 58 - 12);
    }

    private static void errorsBeforeTheMap(Check check) {
        SharedFibre x = Fibres.working(2);
        x.contract(0, 0, 5, 0, 5, 1);
        x.send(0, 0, 20);
        x.frame();
        Fibres.drift(x, 0, -9);
        check.is("frame()", x.frame(), 0);
        check.is("an unknown unit is given nothing", x.container(0, 0, 2), 0);
        check.is("and has no block for itself", x.count(5), 59);
        check.is("it sends nothing", x.container(0, 0, 0), 15);
    }

    private static void reportsStay(Check check) {
        SharedFibre x = Fibres.working(1);
        x.contract(0, 0, 5, 0, 60, 1);
        x.send(0, 0, 20);
        x.frame();
        Fibres.drift(x, 0, 9);
        x.send(0, 0, 3);
        x.frame();
        check.is("what is reported of a unit that became unknown", x.container(0, 0, 1), 15);
        x.discover();
        x.frame();
        check.is("what the latest map gave it", x.container(0, 0, 2), 0);
        x.frame();
        check.is("it is given by that when it works again", x.container(0, 0, 2), 15);
        check.is("and its load is reported anew", x.container(0, 0, 1), 3);
    }

    /** Errors as far apart as a frame bears them, at every pair of neighbours. */
    private static void nothingMeets(Check check) {
        SharedFibre x = Fibres.working(5);
        for (int unit = 0; unit < 5; unit++) {
            x.contract(unit, 0, unit, 0, 60, 1);
            Fibres.drift(x, unit, unit % 2 == 0 ? 8 : -8);
        }
        x.frame();
        for (int unit = 0; unit < 5; unit++) {
            Fibres.drift(x, unit, unit % 2 == 0 ? 4 : -4);
        }
        x.frame();
        check.is("none met", x.count(4), 0);
    }
}
