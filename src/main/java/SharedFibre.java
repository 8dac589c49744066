/**
 * Units at different distances send to one head end over a shared fibre, frame by frame.
 * What each call promises stands in the document DOC.md, by the numbers used below.
 */
public final class SharedFibre {
    private static final int UNITS = 5;
    private static final int CONTAINERS = 2;
    private static final int FEEDERS = 2;
    private static final int MOST_QUEUED = 8;
    private static final int MOST_DATAGRAMS = 100;

    private static final int AWAY = 0;
    private static final int UNKNOWN = 1;
    private static final int WORKING = 2;

    private static final int MOST_SERIAL = 9999;
    private static final int LEAST_WAY = 100;
    private static final int MOST_WAY = 600;
    private static final int MOST_DRIFT = 2;
    private static final int MOST_MOST = 60;
    private static final int MOST_WEIGHT = 9;
    private static final int MOST_CONTRACTED = 55;
    private static final int MOST_BLOCKS = 20;
    private static final int MOST_KEY = 99;

    private static final int DARK = -1;
    private static final int QUIET = -2;
    private static final int DARK_FRAMES_TO_SWITCH = 3;
    private static final int WINDOWS = 8;
    private static final int ERROR_TO_MEND = 4;
    private static final int ERROR_TO_BEAR = 8;
    private static final int MAP_BLOCKS = 60;
    private static final int SLOTS_PER_BLOCK = 16;
    private static final int SLOTS_PER_UNIT = 16;
    private static final int SLOTS_BETWEEN = 32;

    private static final int NOTED = 4;

    private final Unit[] units = new Unit[UNITS];
    private final boolean[] cut = new boolean[FEEDERS];
    private final int[] arrivals = new int[MOST_DATAGRAMS * NOTED];
    private final int[] answersIn = new int[WINDOWS];
    private final int[] burstStart = new int[UNITS];
    private final int[] burstEnd = new int[UNITS];
    private int active;
    private int darkInRow;
    private boolean quietAsked;
    private int frames;
    private int datagrams;
    private int arrived;
    private int lost;
    private int met;
    private int notGiven;
    private int strayed;

    /** Promise 1. */
    public SharedFibre() {
        for (int i = 0; i < UNITS; i++) {
            units[i] = new Unit();
        }
    }

    /** Promise 2. */
    public int plug(int serial, int way) throws IllegalArgumentException, IllegalStateException {
        if (serial < 0 || serial > MOST_SERIAL || hasSerial(serial)) {
            throw new IllegalArgumentException("serial");
        }
        if (!isWay(way)) {
            throw new IllegalArgumentException("way");
        }
        int free = firstAway();
        if (free == UNITS) {
            throw new IllegalStateException("no unit is away");
        }
        Unit u = units[free];
        u.state = UNKNOWN;
        u.serial = serial;
        u.way = way;
        return free;
    }

    /** Promise 3. */
    public void unplug(int unit) throws IllegalArgumentException {
        plugged(unit).clear();
    }

    /** Promise 4. */
    public void contract(int unit, int container, int fixed, int assured, int most, int weight)
            throws IllegalArgumentException, IllegalStateException {
        Container c = pluggedContainer(unit, container);
        if (fixed < 0 || assured < 0 || most > MOST_MOST || (long) fixed + assured > most) {
            throw new IllegalArgumentException("fixed, assured or most");
        }
        if (weight < 1 || weight > MOST_WEIGHT) {
            throw new IllegalArgumentException("weight");
        }
        if (contracted() - c.fixed - c.assured + fixed + assured > MOST_CONTRACTED) {
            throw new IllegalStateException("more than can be contracted");
        }
        c.fixed = fixed;
        c.assured = assured;
        c.most = most;
        c.weight = weight;
    }

    /** Promise 5. */
    public void drift(int unit, int slots) throws IllegalArgumentException {
        Unit u = plugged(unit);
        if (slots < -MOST_DRIFT || slots > MOST_DRIFT || !isWay(u.way + slots)) {
            throw new IllegalArgumentException("slots");
        }
        u.way += slots;
        if (u.state == WORKING) {
            u.error += slots;
        }
    }

    /** Promise 6. */
    public int send(int unit, int container, int blocks) throws IllegalArgumentException, IllegalStateException {
        Container c = pluggedContainer(unit, container);
        if (blocks < 1 || blocks > MOST_BLOCKS) {
            throw new IllegalArgumentException("blocks");
        }
        if (c.queued == MOST_QUEUED || datagrams == MOST_DATAGRAMS) {
            throw new IllegalStateException("no room for a datagram");
        }
        c.append(datagrams, blocks);
        return datagrams++;
    }

    /** Promise 7. */
    public void key(int unit, int key) throws IllegalArgumentException, IllegalStateException {
        Unit u = plugged(unit);
        if (key < 0 || key > MOST_KEY) {
            throw new IllegalArgumentException("key");
        }
        if (u.keyWaits) {
            throw new IllegalStateException("a key waits");
        }
        u.keyWaits = true;
        u.waitingKey = key;
    }

    /** Promise 8. */
    public void down(int unit, int word) throws IllegalArgumentException {
        Unit u = plugged(unit);
        u.wordWaits = true;
        u.waitingWord = word;
    }

    /** Promise 9. */
    public void spoil(int unit) throws IllegalArgumentException {
        plugged(unit).spoilt = true;
    }

    /** Promise 10. */
    public void feeder(int feeder, boolean cut) throws IllegalArgumentException {
        if (feeder < 0 || feeder >= FEEDERS) {
            throw new IllegalArgumentException("feeder");
        }
        this.cut[feeder] = cut;
    }

    /** Promise 11. */
    public void discover() {
        quietAsked = true;
    }

    /** Promise 12. */
    public int frame() {
        frames++;
        if (cut[active]) {
            passDark();
            return DARK;
        }
        darkInRow = 0;
        if (quietAsked) {
            quietAsked = false;
            passQuiet();
            return QUIET;
        }
        int before = arrived;
        watchErrors();
        makeMap();
        layBursts();
        countMeetings();
        sendBlocks();
        tellDown();
        clearSpoilt();
        return arrived - before;
    }

    /** Promise 13. */
    public int unit(int unit, int what) throws IllegalArgumentException {
        Unit u = numbered(unit);
        switch (what) {
            case 0: return u.state;
            case 1: return u.error;
            case 2: return u.keyInForce;
            case 3: return u.toldKey;
            case 4: return u.madeOut;
            case 5: return u.sentAs;
            case 6: return u.answered;
            default: throw new IllegalArgumentException("what");
        }
    }

    /** Promise 14. */
    public int container(int unit, int container, int what) throws IllegalArgumentException {
        Container c = containerOf(numbered(unit), container);
        switch (what) {
            case 0: return c.load();
            case 1: return c.reported;
            case 2: return c.given;
            case 3: return c.queued;
            default: throw new IllegalArgumentException("what");
        }
    }

    /** Promise 15. */
    public int came(int k, int what) throws IndexOutOfBoundsException, IllegalArgumentException {
        if (k < 0 || k >= arrived) {
            throw new IndexOutOfBoundsException("k");
        }
        if (what < 0 || what >= NOTED) {
            throw new IllegalArgumentException("what");
        }
        return arrivals[k * NOTED + what];
    }

    /** Promise 16. */
    public int count(int which) throws IllegalArgumentException {
        switch (which) {
            case 0: return arrived;
            case 1: return lost;
            case 2: return frames;
            case 3: return active;
            case 4: return met;
            case 5: return notGiven;
            case 6: return strayed;
            default: throw new IllegalArgumentException("which");
        }
    }

    private Unit numbered(int unit) {
        if (unit < 0 || unit >= UNITS) {
            throw new IllegalArgumentException("unit");
        }
        return units[unit];
    }

    private Unit plugged(int unit) {
        Unit u = numbered(unit);
        if (u.state == AWAY) {
            throw new IllegalArgumentException("unit is away");
        }
        return u;
    }

    private static Container containerOf(Unit u, int container) {
        if (container < 0 || container >= CONTAINERS) {
            throw new IllegalArgumentException("container");
        }
        return u.containers[container];
    }

    private Container pluggedContainer(int unit, int container) {
        return containerOf(plugged(unit), container);
    }

    private boolean hasSerial(int serial) {
        for (Unit u : units) {
            if (u.state != AWAY && u.serial == serial) {
                return true;
            }
        }
        return false;
    }

    private static boolean isWay(int way) {
        return way >= LEAST_WAY && way <= MOST_WAY;
    }

    private int firstAway() {
        int i = 0;
        while (i < UNITS && units[i].state != AWAY) {
            i++;
        }
        return i;
    }

    private int contracted() {
        int sum = 0;
        for (Unit u : units) {
            for (Container c : u.containers) {
                sum += c.fixed + c.assured;
            }
        }
        return sum;
    }

    private void passDark() {
        darkInRow++;
        int other = 1 - active;
        if (darkInRow >= DARK_FRAMES_TO_SWITCH && !cut[other]) {
            active = other;
            darkInRow = 0;
        }
    }

    private void passQuiet() {
        for (int w = 0; w < WINDOWS; w++) {
            answersIn[w] = 0;
        }
        for (Unit u : units) {
            if (u.state == UNKNOWN) {
                answersIn[u.answerWindow()]++;
            }
        }
        for (Unit u : units) {
            if (u.state == UNKNOWN) {
                if (answersIn[u.answerWindow()] == 1) {
                    u.state = WORKING;
                } else {
                    u.answered++;
                }
            }
        }
    }

    private void watchErrors() {
        for (Unit u : units) {
            int off = Math.abs(u.error);
            if (off > ERROR_TO_BEAR) {
                u.state = UNKNOWN;
                u.answered = 0;
                strayed++;
            }
            if (off > ERROR_TO_MEND) {
                u.error = 0;
            }
        }
    }

    private void makeMap() {
        int left = MAP_BLOCKS;
        for (Unit u : units) {
            boolean works = u.state == WORKING;
            if (works) {
                left--;
            }
            for (Container c : u.containers) {
                c.giveContracted(works);
                left -= c.given;
            }
        }
        notGiven = giveSpare(left);
    }

    private int giveSpare(int blocks) {
        for (int left = blocks; left > 0; left--) {
            Container next = nextToGive();
            if (next == null) {
                return left;
            }
            next.given++;
            next.spare++;
        }
        return 0;
    }

    private Container nextToGive() {
        Container next = null;
        for (Unit u : units) {
            if (u.state == WORKING) {
                for (Container c : u.containers) {
                    if (c.wants() && (next == null || c.hasLessSpareThan(next))) {
                        next = c;
                    }
                }
            }
        }
        return next;
    }

    private void layBursts() {
        int slot = 0;
        for (int i = 0; i < UNITS; i++) {
            Unit u = units[i];
            int length = u.state == WORKING ? u.burstLength() : 0;
            burstStart[i] = slot + u.error;
            burstEnd[i] = burstStart[i] + length;
            if (length > 0) {
                slot += length + SLOTS_BETWEEN;
            }
        }
    }

    private void countMeetings() {
        for (int i = 0; i < UNITS; i++) {
            for (int j = i + 1; j < UNITS; j++) {
                // A unit that does not work has an empty burst here, and that meets none.
                if (Math.max(burstStart[i], burstStart[j]) < Math.min(burstEnd[i], burstEnd[j])) {
                    met++;
                }
            }
        }
    }

    private void sendBlocks() {
        for (int i = 0; i < UNITS; i++) {
            Unit u = units[i];
            if (u.state == WORKING) {
                for (int j = 0; j < CONTAINERS; j++) {
                    Container c = u.containers[j];
                    sendFrom(c, i, j);
                    if (!u.spoilt) {
                        c.reported = c.load();
                    }
                }
            }
        }
    }

    private void sendFrom(Container c, int unit, int container) {
        boolean spoilt = units[unit].spoilt;
        for (int n = 0; n < c.given && c.queued > 0; n++) {
            c.sendBlock(spoilt);
            if (c.unsent[0] == 0) {
                if (c.firstHurt) {
                    lost++;
                } else {
                    note(c.numbers[0], unit, container);
                }
                c.dropFirst();
            }
        }
    }

    private void note(int number, int unit, int container) {
        int row = arrived * NOTED;
        arrivals[row] = number;
        arrivals[row + 1] = unit;
        arrivals[row + 2] = container;
        arrivals[row + 3] = frames;
        arrived++;
    }

    private void tellDown() {
        for (Unit u : units) {
            if (u.state == WORKING) {
                u.takeWord(frames);
                u.takeKey();
            }
        }
    }

    private void clearSpoilt() {
        for (Unit u : units) {
            u.spoilt = false;
        }
    }

    private static int mix(int a, int b) {
        int h = a * 0x2545F491;
        h ^= h >>> 15;
        h = (h ^ b) * 0x9E3779B1;
        return h ^ (h >>> 13);
    }

    /** A unit; one that is away is as a new one, so that all that is asked of it is 0. */
    private static final class Unit {
        final Container[] containers = new Container[CONTAINERS];
        int state;
        int serial;
        int way;
        int answered;
        // Kept in place of the hold, which nothing but the error ever shows: a new feeder's
        // extra way leaves the error as it was. It is 0 unless the unit works.
        int error;
        int keyInForce;
        boolean keyWaits;
        int waitingKey;
        int toldKey;
        boolean wordWaits;
        int waitingWord;
        int madeOut;
        int sentAs;
        boolean spoilt;

        Unit() {
            for (int i = 0; i < CONTAINERS; i++) {
                containers[i] = new Container();
            }
        }

        void clear() {
            state = AWAY;
            serial = 0;
            way = 0;
            answered = 0;
            error = 0;
            keyInForce = 0;
            keyWaits = false;
            waitingKey = 0;
            toldKey = 0;
            wordWaits = false;
            waitingWord = 0;
            madeOut = 0;
            sentAs = 0;
            spoilt = false;
            for (Container c : containers) {
                c.clear();
            }
        }

        int answerWindow() {
            return (mix(serial, answered) >>> 1) % WINDOWS;
        }

        int burstLength() {
            int length = SLOTS_PER_UNIT;
            for (Container c : containers) {
                length += SLOTS_PER_BLOCK * c.given;
            }
            return length;
        }

        void takeWord(int frame) {
            if (wordWaits) {
                int cover = mix(keyInForce, frame);
                sentAs = waitingWord ^ cover;
                // The unit has the key in force at any time, so it can always make the word out.
                madeOut = sentAs ^ cover;
                wordWaits = false;
            }
        }

        void takeKey() {
            if (keyWaits) {
                toldKey = waitingKey;
                // A spoilt unit's word that it has the key does not reach the head end.
                if (!spoilt) {
                    keyInForce = waitingKey;
                    keyWaits = false;
                }
            }
        }
    }

    /** A container with its contract, its queue (in rows, the first datagram at 0) and its share of the map. */
    private static final class Container {
        final int[] numbers = new int[MOST_QUEUED];
        final int[] unsent = new int[MOST_QUEUED];
        int queued;
        boolean firstHurt;
        int fixed;
        int assured;
        int most;
        int weight = 1;
        int reported;
        int given;
        int spare;

        void clear() {
            queued = 0;
            firstHurt = false;
            fixed = 0;
            assured = 0;
            most = 0;
            weight = 1;
            reported = 0;
            given = 0;
            spare = 0;
        }

        int load() {
            int sum = 0;
            for (int i = 0; i < queued; i++) {
                sum += unsent[i];
            }
            return sum;
        }

        void append(int number, int blocks) {
            numbers[queued] = number;
            unsent[queued] = blocks;
            queued++;
        }

        void sendBlock(boolean spoilt) {
            unsent[0]--;
            if (spoilt) {
                firstHurt = true;
            }
        }

        void dropFirst() {
            queued--;
            for (int i = 0; i < queued; i++) {
                numbers[i] = numbers[i + 1];
                unsent[i] = unsent[i + 1];
            }
            firstHurt = false;
        }

        void giveContracted(boolean works) {
            spare = 0;
            given = works ? fixed + Math.min(assured, Math.max(0, reported - fixed)) : 0;
        }

        boolean wants() {
            return given < most && given < reported;
        }

        boolean hasLessSpareThan(Container other) {
            return spare * other.weight < other.spare * weight;
        }
    }
}
