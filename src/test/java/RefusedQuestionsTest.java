/** Promises 13 to 16: each condition of the sentences that begin with an exception's name, just outside its bound. */
final class RefusedQuestionsTest {
    private static final int[] NO_UNIT = {-1, 5, Integer.MIN_VALUE, Integer.MAX_VALUE};
    private static final int[] NO_CONTAINER = {-1, 2, Integer.MIN_VALUE, Integer.MAX_VALUE};
    private static final int AWAY = 4;

    public static void main(String[] args) {
        Check check = new Check();
        Refused r = new Refused(check, Scenes::busy, Scenes::narrow, Scenes::asked, Scenes::dark);
        unit(r);
        container(r);
        came(r);
        cameWhenNoneDid(new Refused(check, () -> Fibres.working(2)));
        count(r);
        check.end();
    }

    /** Promise 13: "there is no such number, or what"; an away unit's number is one. */
    private static void unit(Refused r) {
        for (int no : NO_UNIT) {
            r.argument("unit(" + no + ", 0)", x -> x.unit(no, 0));
            r.argument("unit(" + no + ", 6)", x -> x.unit(no, 6));
        }
        for (int no : new int[] {-1, 7, Integer.MIN_VALUE, Integer.MAX_VALUE}) {
            r.argument("unit(0, " + no + ")", x -> x.unit(0, no));
            r.argument("unit(4, " + no + ")", x -> x.unit(AWAY, no));
        }
    }

    /** Promise 14: "there is no such unit number, container, or what". */
    private static void container(Refused r) {
        for (int no : NO_UNIT) {
            r.argument("container(" + no + ", 0, 0)", x -> x.container(no, 0, 0));
            r.argument("container(" + no + ", 1, 3)", x -> x.container(no, 1, 3));
        }
        for (int no : NO_CONTAINER) {
            r.argument("container(0, " + no + ", 0)", x -> x.container(0, no, 0));
            r.argument("container(4, " + no + ", 3)", x -> x.container(AWAY, no, 3));
        }
        for (int no : new int[] {-1, 4, Integer.MIN_VALUE, Integer.MAX_VALUE}) {
            r.argument("container(0, 1, " + no + ")", x -> x.container(0, 1, no));
            r.argument("container(4, 1, " + no + ")", x -> x.container(AWAY, 1, no));
        }
    }

    /** Promise 15: "there is none such", "what is none of these"; one datagram came. */
    private static void came(Refused r) {
        for (int k : new int[] {-1, 1, Integer.MIN_VALUE, Integer.MAX_VALUE, 1 << 30, -(1 << 30)}) {
            r.index("came(" + k + ", 0)", x -> x.came(k, 0));
            r.index("came(" + k + ", 3)", x -> x.came(k, 3));
        }
        for (int no : new int[] {-1, 4, Integer.MIN_VALUE, Integer.MAX_VALUE}) {
            r.argument("came(0, " + no + ")", x -> x.came(0, no));
        }
        r.index("came(1, 4), wrong in both", x -> x.came(1, 4));
    }

    private static void cameWhenNoneDid(Refused r) {
        r.index("came(0, 0) when none came", x -> x.came(0, 0));
        r.index("came(-1, 0) when none came", x -> x.came(-1, 0));
    }

    /** Promise 16: "there is no such number". */
    private static void count(Refused r) {
        for (int no : new int[] {-1, 7, Integer.MIN_VALUE, Integer.MAX_VALUE}) {
            r.argument("count(" + no + ")", x -> x.count(no));
        }
    }
}
