/** Promise 8: down; the mixes are reckoned by hand from the terms. */
final class Promise08DownTest {
    private static final int KEY_0_FRAME_2 = 1013911573;
    private static final int KEY_0_FRAME_3 = -627001312;
    private static final int KEY_4_FRAME_3 = 2124485375;
    private static final int KEY_7_FRAME_3 = -1720613795;
    private static final int KEY_7_FRAME_4 = 1173541799;
    private static final int KEY_7_FRAME_5 = -466660206;

    public static void main(String[] args) {
        Check check = new Check();
        wrongInputs(check);
        words(check);
        spoiltWord(check);
        frameNumbers(check);
        shiftWithoutSign(check);
        check.end();
    }

    private static void wrongInputs(Check check) {
        SharedFibre x = Fibres.working(1);
        check.argument("unit -1", () -> x.down(-1, 1));
        check.argument("unit 5", () -> x.down(5, 1));
        check.argument("a unit that is away", () -> x.down(1, 1));
    }

    private static void words(Check check) {
        SharedFibre x = Fibres.working(2);
        x.down(0, 1);
        x.down(0, Integer.MIN_VALUE);
        x.key(0, 7);
        check.is("before the frame", x.unit(0, 4), 0);
        x.frame();
        check.is("the later word", x.unit(0, 4), Integer.MIN_VALUE);
        check.is("sent by the key in force", x.unit(0, 5), Integer.MIN_VALUE ^ KEY_0_FRAME_2);
        check.is("the other was told nothing", x.unit(1, 5), 0);
        x.down(0, 0);
        x.frame();
        check.is("the word 0", x.unit(0, 4), 0);
        check.is("sent by the new key", x.unit(0, 5), KEY_7_FRAME_3);
        x.frame();
        check.is("no word waits then", x.unit(0, 5), KEY_7_FRAME_3);
        x.down(0, -1);
        x.frame();
        check.is("the word -1", x.unit(0, 4), -1);
        check.is("as what it was sent", x.unit(0, 5), ~KEY_7_FRAME_5);
    }

    private static void spoiltWord(Check check) {
        SharedFibre x = Fibres.working(1);
        x.key(0, 7);
        x.down(0, 5);
        x.spoil(0);
        x.frame();
        check.is("a spoilt unit makes it out", x.unit(0, 4), 5);
        check.is("as what it was sent", x.unit(0, 5), 5 ^ KEY_0_FRAME_2);
        x.down(0, 6);
        x.frame();
        check.is("the old key is still in force", x.unit(0, 5), 6 ^ KEY_0_FRAME_3);
        x.down(0, 6);
        x.frame();
        check.is("the new key is in force", x.unit(0, 5), 6 ^ KEY_7_FRAME_4);
    }

    private static void frameNumbers(Check check) {
        SharedFibre x = Fibres.unknown(1);
        x.down(0, 5);
        x.feeder(0, true);
        x.frame();
        x.feeder(0, false);
        check.is("not in a dark frame", x.unit(0, 5), 0);
        x.discover();
        x.frame();
        check.is("not in a quiet frame", x.unit(0, 5), 0);
        x.frame();
        check.is("both count as frames", x.unit(0, 5), 5 ^ KEY_0_FRAME_3);
    }

    /** The first product of key 4 is negative as an int. */
    private static void shiftWithoutSign(Check check) {
        SharedFibre x = Fibres.working(1);
        x.key(0, 4);
        x.frame();
        x.down(0, 123456789);
        x.frame();
        check.is("as what it was sent", x.unit(0, 5), 123456789 ^ KEY_4_FRAME_3);
    }
}
