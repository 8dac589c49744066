import java.util.List;

/** The frame's order, its second part: quiet frames, with the windows of 'MixTest'. */
final class FrameOrderQuietTest {
    public static void main(String[] args) {
        Check check = new Check();
        aloneInEachWindow(check);
        twoInOneWindow(check);
        threeInOneWindow(check);
        twoPairs(check);
        onlyUnknownUnitsAnswer(check);
        nothingElseHappens(check);
        oneFrameOnly(check);
        errorOfZero(check);
        answersAnewBehindAnError(check);
        check.end();
    }

    private static void quiet(SharedFibre x) {
        x.discover();
        x.frame();
    }

    private static SharedFibre plugged(int... serials) {
        SharedFibre x = new SharedFibre();
        for (int serial : serials) {
            x.plug(serial, 300);
        }
        return x;
    }

    private static void shows(Check check, String when, SharedFibre x, int what, int... due) {
        for (int unit = 0; unit < due.length; unit++) {
            check.is("unit(" + unit + ", " + what + ") " + when, x.unit(unit, what), due[unit]);
        }
    }

    /** "Who is alone in a window is working then", and did not answer once more. */
    private static void aloneInEachWindow(Check check) {
        SharedFibre x = plugged(0, 2, 5, 8, 20);
        quiet(x);
        shows(check, "in windows 0 to 4", x, 0, 2, 2, 2, 2, 2);
        shows(check, "in windows 0 to 4", x, 6, 0, 0, 0, 0, 0);
        SharedFibre y = plugged(6, 10, 1);
        quiet(y);
        shows(check, "in windows 5 to 7", y, 0, 2, 2, 2);
    }

    /** "Who is not answered once more than before": serials 1 and 3 have the windows 7 5 3 and 7 5 2. */
    private static void twoInOneWindow(Check check) {
        SharedFibre x = plugged(1, 0, 3);
        quiet(x);
        shows(check, "behind one", x, 0, 1, 2, 1);
        shows(check, "behind one", x, 6, 1, 0, 1);
        quiet(x);
        shows(check, "behind two", x, 0, 1, 2, 1);
        shows(check, "behind two", x, 6, 2, 0, 2);
        quiet(x);
        shows(check, "behind three", x, 0, 2, 2, 2);
        shows(check, "behind three", x, 6, 2, 0, 2);
    }

    /** Serial 6 has 5 7 0: it meets both of the others with their second answer. */
    private static void threeInOneWindow(Check check) {
        SharedFibre x = plugged(1, 3);
        quiet(x);
        x.plug(6, 300);
        quiet(x);
        shows(check, "in one window", x, 0, 1, 1, 1);
        shows(check, "in one window", x, 6, 2, 2, 1);
        quiet(x);
        shows(check, "in windows 3, 2 and 7", x, 0, 2, 2, 2);
    }

    /** Serials 0 and 4 meet in window 0, serials 8 and 9999 in 3, and 20 is alone in 4. */
    private static void twoPairs(Check check) {
        SharedFibre x = plugged(0, 8, 4, 9999, 20);
        quiet(x);
        shows(check, "in two pairs", x, 0, 1, 1, 1, 1, 2);
        shows(check, "in two pairs", x, 6, 1, 1, 1, 1, 0);
        // Then 5 and 5 meet (serials 0 and 9999); 1 and 2 are alone.
        quiet(x);
        shows(check, "in a new pair", x, 0, 1, 2, 2, 1, 2);
        shows(check, "in a new pair", x, 6, 2, 1, 1, 2, 0);
    }

    /** "Each unknown unit answers": one that works or is away is in nobody's way. */
    private static void onlyUnknownUnitsAnswer(Check check) {
        SharedFibre x = plugged(1);
        quiet(x);
        x.plug(3, 300);
        quiet(x);
        shows(check, "beside a working one of its window", x, 0, 2, 2);
        SharedFibre y = plugged(1, 3);
        y.unplug(0);
        quiet(y);
        shows(check, "beside one that is away", y, 0, 0, 2);
        shows(check, "beside one that is away", y, 6, 0, 0);
    }

    /** No map, no block, no key, no word, no error looked at; a spoilt unit waits. */
    private static void nothingElseHappens(Check check) {
        SharedFibre x = Scenes.busy();
        Fibres.drift(x, 1, -20);
        x.unplug(3);
        x.unplug(2);
        List<Long> before = Shown.all(x);
        x.discover();
        check.is("a quiet frame", x.frame(), -2);
        before.set(5 * 15 + 2, 4L);
        check.same("what is shown behind a quiet frame", Shown.all(x), before);
        x.frame();
        check.is("the spoilt unit is spoilt behind it still", x.unit(0, 2), 7);
        check.is("the word is told behind it", x.unit(0, 4), 80);
        check.is("the error is looked at behind it", x.unit(1, 0), 1);
    }

    /** "This is it": asked twice, it is one; asked behind it, another. */
    private static void oneFrameOnly(Check check) {
        SharedFibre x = plugged(0);
        x.discover();
        x.discover();
        check.is("the quiet frame", x.frame(), -2);
        check.is("the next one", x.frame(), 0);
        x.discover();
        check.is("asked for again", x.frame(), -2);
    }

    /** "With an error of 0", whatever its way was before. */
    private static void errorOfZero(Check check) {
        for (int way = 100; way <= 600; way += 250) {
            SharedFibre x = new SharedFibre();
            x.plug(0, way);
            Fibres.drift(x, 0, way == 600 ? -12 : 12);
            quiet(x);
            check.is("the error at way " + way, x.unit(0, 1), 0);
            Fibres.drift(x, 0, 9);
            x.frame();
            check.is("unknown at way " + way, x.unit(0, 0), 1);
            x.drift(0, -2);
            check.is("unknown, it has no error", x.unit(0, 1), 0);
            quiet(x);
            check.is("the error when it is found again", x.unit(0, 1), 0);
        }
    }

    /** "It answered 0 times then": it answers in its first window again. */
    private static void answersAnewBehindAnError(Check check) {
        SharedFibre x = plugged(1, 3);
        for (int i = 0; i < 3; i++) {
            quiet(x);
        }
        shows(check, "behind three", x, 6, 2, 2);
        Fibres.drift(x, 0, 9);
        Fibres.drift(x, 1, -9);
        x.frame();
        shows(check, "behind the errors", x, 0, 1, 1);
        shows(check, "behind the errors", x, 6, 0, 0);
        quiet(x);
        shows(check, "in window 7 again", x, 0, 1, 1);
        shows(check, "in window 7 again", x, 6, 1, 1);
    }
}
