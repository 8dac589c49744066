import java.math.BigInteger;

/** 'THE MIX': products that wrap, shifts without sign, and the rest; by numbers without end and by written ones. */
final class MixTest {
    private static final BigInteger WORD = BigInteger.ONE.shiftLeft(32);
    private static final int[] WORDS = {0, 1, -1, Integer.MIN_VALUE, Integer.MAX_VALUE, 0x55555555, 0xAAAAAAAA};

    // Serials, and the windows in which they answer first, second and third.
    private static final int[][] WINDOWS = {
        {0, 0, 5, 2}, {1, 7, 5, 3}, {2, 1, 7, 4}, {3, 7, 5, 2}, {4, 0, 2, 5}, {8, 3, 1, 6}, {9999, 3, 5, 7},
    };

    // Keys, and their mixes with the frames 2 and 3.
    private static final int[][] MIXES = {
        {0, 1013911573, -627001312}, {4, 484083530, 2124485375}, {7, -80080984, -1720613795},
        {99, -2070928310, 583691456},
    };

    public static void main(String[] args) {
        Check check = new Check();
        writtenWindows(check);
        writtenMixes(check);
        everyCaseIsThere(check);
        allSerials(check);
        allKeysAndWords(check);
        lateFrame(check);
        check.end();
    }

    private static int mix(int a, int b) {
        BigInteger h = low(a).multiply(BigInteger.valueOf(0x2545F491L)).mod(WORD);
        h = h.xor(h.divide(BigInteger.valueOf(1 << 15)));
        h = h.xor(low(b)).multiply(BigInteger.valueOf(0x9E3779B1L)).mod(WORD);
        return h.xor(h.divide(BigInteger.valueOf(1 << 13))).intValue();
    }

    private static BigInteger low(int a) {
        return BigInteger.valueOf(a).mod(WORD);
    }

    private static int window(int serial, int answered) {
        return low(mix(serial, answered)).divide(BigInteger.TWO).mod(BigInteger.valueOf(8)).intValue();
    }

    /** Two units meet in a window exactly when their written windows are the same. */
    private static void writtenWindows(Check check) {
        for (int[] one : WINDOWS) {
            for (int times = 0; times < 3; times++) {
                check.is("the window of serial " + one[0] + " after " + times, window(one[0], times), one[1 + times]);
            }
            for (int[] two : WINDOWS) {
                if (one != two) {
                    meeting(check, one, two);
                }
            }
        }
    }

    private static void meeting(Check check, int[] one, int[] two) {
        SharedFibre x = new SharedFibre();
        x.plug(one[0], 300);
        x.plug(two[0], 300);
        boolean met = true;
        for (int times = 0; times < 3 && met; times++) {
            x.discover();
            x.frame();
            met = one[1 + times] == two[1 + times];
            String who = "serial " + one[0] + " beside " + two[0] + " after " + times;
            check.is(who, x.unit(0, 0), met ? 1 : 2);
            check.is(who + ", how often", x.unit(0, 6), met ? times + 1 : times);
        }
    }

    private static void writtenMixes(Check check) {
        for (int[] row : MIXES) {
            check.is("the mix of " + row[0] + " and 2", mix(row[0], 2), row[1]);
            check.is("the mix of " + row[0] + " and 3", mix(row[0], 3), row[2]);
            SharedFibre x = Fibres.working(1);
            x.key(0, row[0]);
            x.frame();
            x.down(0, 0);
            x.frame();
            check.is("the word 0 by key " + row[0] + " in frame 3", x.unit(0, 5), row[2]);
        }
    }

    /** The serials and keys below make each product wrap and each shifted number negative, and also not. */
    private static void everyCaseIsThere(Check check) {
        int seen = 0;
        for (int serial = 0; serial < 100; serial++) {
            long first = serial * 0x2545F491L;
            int h = (int) first;
            h ^= h >>> 15;
            long second = (h & 0xFFFFFFFFL) * 0x9E3779B1L;
            seen |= first == (int) first ? 1 : 2;
            seen |= (int) first < 0 ? 4 : 8;
            seen |= second == (int) second ? 16 : 32;
            seen |= (int) second < 0 ? 64 : 128;
            seen |= mix(serial, 0) < 0 ? 256 : 512;
        }
        check.is("the cases that the serials and keys below make", seen, 1023);
    }

    /** Every serial, five by five, till each was found or some rounds have passed. */
    private static void allSerials(Check check) {
        for (int first = 0; first < 10000; first += 5) {
            SharedFibre x = new SharedFibre();
            for (int i = 0; i < 5; i++) {
                x.plug(first + i, 300);
            }
            int[] answered = new int[5];
            boolean[] works = new boolean[5];
            for (int round = 0; round < 4; round++) {
                x.discover();
                x.frame();
                quietRound(first, answered, works);
                for (int i = 0; i < 5; i++) {
                    check.is("the state of serial " + (first + i), x.unit(i, 0), works[i] ? 2 : 1);
                    check.is("how often serial " + (first + i) + " answered", x.unit(i, 6), answered[i]);
                }
            }
        }
    }

    private static void quietRound(int first, int[] answered, boolean[] works) {
        int[] in = new int[8];
        int[] windows = new int[5];
        for (int i = 0; i < 5; i++) {
            windows[i] = window(first + i, answered[i]);
            in[windows[i]] += works[i] ? 0 : 1;
        }
        for (int i = 0; i < 5; i++) {
            if (!works[i] && in[windows[i]] > 1) {
                answered[i]++;
            } else {
                works[i] = true;
            }
        }
    }

    private static void allKeysAndWords(Check check) {
        for (int key = 0; key <= 99; key++) {
            SharedFibre x = Fibres.working(1);
            x.key(0, key);
            x.frame();
            for (int i = 0; i < WORDS.length; i++) {
                x.down(0, WORDS[i]);
                x.frame();
                String word = "the word " + WORDS[i] + " by key " + key;
                check.is(word, x.unit(0, 4), WORDS[i]);
                check.is(word + ", as it was sent", x.unit(0, 5), WORDS[i] ^ mix(key, 3 + i));
            }
        }
    }

    /** The last frame that 512 calls have room for. */
    private static void lateFrame(Check check) {
        SharedFibre x = Fibres.working(1);
        Fibres.frames(x, 500);
        x.down(0, -1);
        x.frame();
        check.is("a word in frame 502", x.unit(0, 5), ~mix(0, 502));
        check.is("the frames", x.count(2), 502);
    }
}
