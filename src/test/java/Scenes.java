/** Objects with something in every place, so that a change anywhere would show. */
final class Scenes {
    /** What the contracts of these objects leave of the 55. */
    static final int CONTRACTS_LEFT = 55 - 17;

    private Scenes() {
    }

    /**
     * Units 0 and 1 work (ways 100 and 600, errors -1 and 1), 2 and 3 are unknown (ways 100 and 600, both
     * answered once), 4 is away. Keys wait for 0 and 1, words for 0 and 2; unit 0 is spoilt. One datagram came,
     * one is lost, one is sent in part, and container 1 of unit 1 is full. More is wanted than a map has, so weights
     * count. Feeder 1 is cut.
     */
    static SharedFibre busy() {
        SharedFibre x = new SharedFibre();
        plugFour(x);
        contracts(x);
        firstFrame(x);
        for (int i = 0; i < 8; i++) {
            x.send(1, 1, 12);
        }
        x.send(2, 1, 4);
        x.key(0, 8);
        x.down(0, 80);
        x.down(2, 81);
        x.spoil(0);
        x.drift(0, -1);
        x.drift(1, 1);
        x.feeder(1, true);
        return x;
    }

    /** As the busy one, behind its spoilt frame, and with contracts by which each most counts; keys wait as there. */
    static SharedFibre narrow() {
        SharedFibre x = busy();
        x.contract(0, 0, 3, 5, 9, 2);
        x.contract(0, 1, 0, 5, 6, 1);
        x.contract(1, 1, 1, 1, 4, 9);
        x.frame();
        x.key(1, 9);
        return x;
    }

    /** As the busy one, with a quiet frame asked for. */
    static SharedFibre asked() {
        SharedFibre x = busy();
        x.discover();
        return x;
    }

    /** As the busy one, behind the second dark frame in a row, with the other feeder whole. */
    static SharedFibre dark() {
        SharedFibre x = busy();
        x.feeder(0, true);
        x.feeder(1, false);
        Fibres.frames(x, 2);
        return x;
    }

    /** As the busy one, with no unit away. */
    static SharedFibre full() {
        SharedFibre x = busy();
        x.plug(8, 300);
        return x;
    }

    /** As the dark one, with no unit away. */
    static SharedFibre fullAndDark() {
        SharedFibre x = dark();
        x.plug(8, 300);
        return x;
    }

    /** As the busy one, after 100 datagrams, and with room in every queue. */
    static SharedFibre hundred() {
        SharedFibre x = busy();
        x.unplug(1);
        x.plug(2, 300);
        int given = 0;
        while (given < 99) {
            x.plug(9, 300);
            for (int i = 0; i < 8 && given < 99; i++) {
                given = x.send(4, 1, 1);
            }
            x.unplug(4);
        }
        return x;
    }

    /** Serials 0 and 2 have the windows 0 and 1; serials 1 and 3 meet in 7. */
    private static void plugFour(SharedFibre x) {
        x.plug(0, 101);
        x.plug(2, 599);
        x.discover();
        x.frame();
        x.plug(1, 100);
        x.plug(3, 600);
        x.discover();
        x.frame();
    }

    private static void contracts(SharedFibre x) {
        x.contract(0, 0, 3, 5, 40, 2);
        x.contract(0, 1, 0, 5, 50, 1);
        x.contract(1, 1, 1, 1, 50, 9);
        x.contract(2, 0, 1, 1, 2, 3);
    }

    private static void firstFrame(SharedFibre x) {
        x.send(0, 0, 2);
        x.send(0, 0, 20);
        x.send(0, 0, 20);
        x.send(0, 1, 20);
        x.send(0, 1, 20);
        x.send(1, 1, 1);
        x.spoil(1);
        x.key(0, 7);
        x.down(0, 70);
        x.key(1, 9);
        x.frame();
    }
}
