import java.util.List;

/** The frame's order, its first part: dark frames come before all, and count their row. */
final class FrameOrderDarkTest {
    public static void main(String[] args) {
        Check check = new Check();
        nothingHappens(check);
        darkBeforeQuiet(check);
        quietAskedInTheDark(check);
        thirdInARow(check);
        eachLaterOne(check);
        otherFeederIsCut(check);
        rowAnewBehindASwitch(check);
        rowAnewBehindLight(check);
        onlyTheActiveFeederCounts(check);
        errorsStayThrough(check);
        errorsBeyondTheBoundStayThrough(check);
        foundByTheSecondFeeder(check);
        check.end();
    }

    /** "The frame is DARK: nothing happens", but that it is a frame. */
    private static void nothingHappens(Check check) {
        SharedFibre x = Scenes.busy();
        x.feeder(0, true);
        Fibres.drift(x, 1, -20);
        List<Long> before = Shown.all(x);
        check.is("a dark frame", x.frame(), -1);
        check.is("frames", x.count(2), 4);
        before.set(5 * 15 + 2, 4L);
        check.same("what is shown behind a dark frame", Shown.all(x), before);
        x.feeder(0, false);
        x.frame();
        check.is("the spoilt unit is spoilt behind it still", x.unit(0, 2), 7);
        check.is("the word is told behind it", x.unit(0, 4), 80);
        check.is("the error is looked at behind it", x.unit(1, 0), 1);
    }

    /** "Otherwise, if a quiet frame was asked for": it waits for a frame that is not dark. */
    private static void darkBeforeQuiet(Check check) {
        SharedFibre x = Fibres.unknown(1);
        x.discover();
        x.feeder(0, true);
        for (int i = 0; i < 3; i++) {
            check.is("a dark frame", x.frame(), -1);
            check.is("nobody is found in it", x.unit(0, 0), 1);
        }
        check.is("the quiet frame", x.frame(), -2);
        check.is("only one", x.frame(), 0);
    }

    /** Promise 11: "the next frame that is not dark", also when it is asked for between dark frames. */
    private static void quietAskedInTheDark(Check check) {
        SharedFibre x = Fibres.unknown(1);
        x.feeder(0, true);
        x.frame();
        x.discover();
        check.is("a dark frame behind that", x.frame(), -1);
        x.feeder(0, false);
        check.is("the quiet frame", x.frame(), -2);
        check.is("it is found", x.unit(0, 0), 2);
    }

    /** "With the third dark frame in a row": not with the second. */
    private static void thirdInARow(Check check) {
        SharedFibre x = Fibres.working(1);
        x.feeder(0, true);
        int[] due = {0, 0, 1};
        for (int i = 0; i < 3; i++) {
            check.is("dark frame " + (i + 1), x.frame(), -1);
            check.is("the active feeder behind it", x.count(3), due[i]);
        }
        check.is("the next frame is not dark", x.frame(), 0);
    }

    /** "And each later one": the fourth, the fifth and the sixth. */
    private static void eachLaterOne(Check check) {
        for (int before = 3; before <= 6; before++) {
            SharedFibre x = Fibres.working(1);
            x.feeder(0, true);
            x.feeder(1, true);
            Fibres.frames(x, before);
            x.feeder(1, false);
            check.is("the active feeder behind " + before + " dark frames", x.count(3), 0);
            check.is("another dark frame", x.frame(), -1);
            check.is("the active feeder then", x.count(3), 1);
        }
    }

    /** "If it is whole": else all stays, frame for frame. */
    private static void otherFeederIsCut(Check check) {
        SharedFibre x = Fibres.working(1);
        x.feeder(0, true);
        x.feeder(1, true);
        for (int i = 0; i < 8; i++) {
            check.is("a dark frame", x.frame(), -1);
            check.is("the active feeder", x.count(3), 0);
        }
        x.feeder(0, false);
        check.is("the first one is whole again", x.frame(), 0);
        check.is("and has been active throughout", x.count(3), 0);
    }

    /** "The row of dark frames begins anew then": the new feeder, if cut, has three of its own. */
    private static void rowAnewBehindASwitch(Check check) {
        SharedFibre x = Fibres.working(1);
        x.feeder(0, true);
        Fibres.frames(x, 3);
        x.feeder(0, false);
        x.feeder(1, true);
        int[] due = {1, 1, 0};
        for (int i = 0; i < 3; i++) {
            check.is("dark frame " + (i + 1) + " of the second feeder", x.frame(), -1);
            check.is("the active feeder behind it", x.count(3), due[i]);
        }
    }

    /** "It also does with each frame that is not dark", an ordinary one or a quiet one. */
    private static void rowAnewBehindLight(Check check) {
        for (int quiet = 0; quiet < 2; quiet++) {
            SharedFibre x = Fibres.working(1);
            x.feeder(0, true);
            Fibres.frames(x, 2);
            x.feeder(0, false);
            if (quiet == 1) {
                x.discover();
            }
            check.is("a frame that is not dark", x.frame(), -2 * quiet);
            x.feeder(0, true);
            int[] due = {0, 0, 1};
            for (int i = 0; i < 3; i++) {
                x.frame();
                check.is("the active feeder behind dark frame " + (i + 1), x.count(3), due[i]);
            }
        }
    }

    /** A cut of the other feeder makes no frame dark; one that is mended before a frame neither. */
    private static void onlyTheActiveFeederCounts(Check check) {
        SharedFibre x = Fibres.working(1);
        x.feeder(1, true);
        for (int i = 0; i < 4; i++) {
            check.is("a frame with feeder 1 cut", x.frame(), 0);
        }
        x.feeder(0, true);
        x.feeder(0, false);
        check.is("a frame with feeder 0 whole again", x.frame(), 0);
        x.feeder(0, true);
        Fibres.frames(x, 2);
        x.feeder(0, false);
        x.feeder(0, true);
        x.feeder(1, false);
        check.is("the third dark frame, though it was whole between frames", x.frame(), -1);
        check.is("the active feeder", x.count(3), 1);
    }

    /** "Its error is what it was before", there and back, and a drift counts from there. */
    private static void errorsStayThrough(Check check) {
        for (int error = -4; error <= 4; error++) {
            SharedFibre x = Fibres.working(2);
            Fibres.drift(x, 1, error);
            for (int feeder = 0; feeder < 2; feeder++) {
                x.feeder(feeder, true);
                Fibres.frames(x, 3);
                x.feeder(feeder, false);
                check.is("the error behind the switch from " + feeder, x.unit(1, 1), error);
                check.is("the error of the other", x.unit(0, 1), 0);
                x.frame();
                check.is("the error in light", x.unit(1, 1), error);
            }
            x.drift(1, 2);
            check.is("a drift behind it", x.unit(1, 1), error + 2);
        }
    }

    /** Errors of 5 and 9 are kept through dark frames, and looked at with the first one in light. */
    private static void errorsBeyondTheBoundStayThrough(Check check) {
        for (int sign = -1; sign <= 1; sign += 2) {
            SharedFibre x = Fibres.working(2);
            Fibres.drift(x, 0, 5 * sign);
            Fibres.drift(x, 1, 9 * sign);
            x.feeder(0, true);
            Fibres.frames(x, 3);
            check.is("an error of 5", x.unit(0, 1), 5 * sign);
            check.is("an error of 9", x.unit(1, 1), 9 * sign);
            check.is("none became unknown in the dark", x.count(6), 0);
            x.frame();
            check.is("the error of 5 is mended", x.unit(0, 1), 0);
            check.is("the one of 9 is unknown", x.unit(1, 0), 1);
            check.is("count(6)", x.count(6), 1);
        }
    }

    private static void foundByTheSecondFeeder(Check check) {
        SharedFibre x = Fibres.unknown(1);
        x.feeder(0, true);
        Fibres.frames(x, 3);
        x.feeder(0, false);
        x.discover();
        x.frame();
        check.is("found", x.unit(0, 0), 2);
        check.is("with an error of 0", x.unit(0, 1), 0);
        x.feeder(1, true);
        x.drift(0, 1);
        Fibres.frames(x, 3);
        check.is("the first feeder is active again", x.count(3), 0);
        check.is("the error is what it was", x.unit(0, 1), 1);
    }
}
