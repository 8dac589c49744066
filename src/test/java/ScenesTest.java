/** The objects that the refused calls are made on are what they are said to be. */
final class ScenesTest {
    public static void main(String[] args) {
        Check check = new Check();
        busy(check);
        check.is("a quiet frame was asked for", Scenes.asked().frame(), -2);
        dark(check);
        check.state("none is away", () -> Scenes.full().plug(9, 300));
        check.state("none is away in the dark", () -> Scenes.fullAndDark().plug(9, 300));
        narrow(check);
        check.state("there were 100", () -> Scenes.hundred().send(0, 0, 1));
        check.end();
    }

    private static void busy(Check check) {
        SharedFibre x = Scenes.busy();
        int[][] units = {{2, -1, 7, 7, 70}, {2, 1, 0, 9, 0}, {1, 0, 0, 0, 0}, {1, 0, 0, 0, 0}, {0, 0, 0, 0, 0}};
        for (int unit = 0; unit < 5; unit++) {
            for (int what = 0; what < 5; what++) {
                check.is("unit(" + unit + ", " + what + ")", x.unit(unit, what), units[unit][what]);
            }
        }
        check.is("unit 2 answered once", x.unit(2, 6), 1);
        check.is("unit 3 answered once", x.unit(3, 6), 1);
        check.is("datagrams that came", x.count(0), 1);
        check.is("datagrams lost", x.count(1), 1);
        check.is("the load of one sent in part", x.container(0, 0, 0), 39);
        check.is("the full queue", x.container(1, 1, 3), 8);
        weightsCount(check);
        check.is("what the contracts leave", Shown.answer(() -> x.contract(3, 0, Scenes.CONTRACTS_LEFT, 0, 60, 1)), 0);
        check.state("and no more", () -> x.contract(3, 1, 1, 0, 60, 1));
    }

    /** 44 spare blocks by weights 2 and 1; then 43 by weights 2, 1 and 9: 36 make a tie, then 1, 1 and 5. */
    private static void weightsCount(Check check) {
        SharedFibre x = Scenes.busy();
        x.frame();
        check.is("nothing is left", x.count(5), 0);
        check.is("weight 2 beside 8", x.container(0, 0, 2), 8 + 29);
        check.is("weight 1 beside 5", x.container(0, 1, 2), 5 + 15);
        x.frame();
        check.is("nothing is left again", x.count(5), 0);
        check.is("weight 9 beside 2", x.container(1, 1, 2), 2 + 32);
    }

    private static void narrow(Check check) {
        SharedFibre x = Scenes.narrow();
        check.is("most 9", x.container(0, 0, 2), 9);
        check.is("most 6", x.container(0, 1, 2), 6);
        x.frame();
        check.is("most 4", x.container(1, 1, 2), 4);
        check.is("the first datagram is hurt, but not sent whole", x.count(1), 1);
        x.frame();
        check.is("it is lost", x.count(1), 2);
    }

    private static void dark(Check check) {
        SharedFibre x = Scenes.dark();
        check.is("the active feeder before the third dark frame", x.count(3), 0);
        check.is("the third dark frame", x.frame(), -1);
        check.is("the active feeder behind it", x.count(3), 1);
    }
}
