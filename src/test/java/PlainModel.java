import java.util.ArrayDeque;
import java.util.ArrayList;
import java.util.HashMap;
import java.util.HashSet;
import java.util.List;
import java.util.Map;
import java.util.Set;

/** The document written a second time, word by word and at leisure: holds, single slots, single blocks. */
final class PlainModel {
    private static final int[] EXTRA = {0, 40};

    private static final class Datagram {
        int number;
        int blocks;
        int sent;
        int came;
    }

    private static final class Box {
        int fixed;
        int assured;
        int most;
        int weight = 1;
        int reported;
        int fromMap;
        int spare;
        final ArrayDeque<Datagram> queue = new ArrayDeque<>();

        int load() {
            return queue.stream().mapToInt(d -> d.blocks - d.sent).sum();
        }

        boolean wants() {
            return fromMap < most && fromMap < reported;
        }
    }

    private static final class Station {
        final int serial;
        int way;
        int hold;
        boolean working;
        int answered;
        final Box[] boxes = {new Box(), new Box()};
        int inForce;
        Integer waitingKey;
        final Set<Integer> keys = new HashSet<>(Set.of(0));
        int told;
        Integer word;
        int madeOut;
        int sentAs;
        boolean spoilt;

        Station(int serial, int way) {
            this.serial = serial;
            this.way = way;
        }
    }

    private final Station[] stations = new Station[5];
    private final boolean[] cut = new boolean[2];
    private final List<int[]> came = new ArrayList<>();
    private int active;
    private int darkRow;
    private boolean quiet;
    private int frames;
    private int datagrams;
    private int lost;
    private int met;
    private int leftOver;
    private int strays;

    private Station at(int unit, boolean mayBeAway) {
        if (unit < 0 || unit > 4 || !mayBeAway && stations[unit] == null) {
            throw new IllegalArgumentException();
        }
        return stations[unit];
    }

    private static void argument(boolean fine) {
        if (!fine) {
            throw new IllegalArgumentException();
        }
    }

    private static void state(boolean fine) {
        if (!fine) {
            throw new IllegalStateException();
        }
    }

    private static boolean in(int x, int low, int high) {
        return low <= x && x <= high;
    }

    private int error(Station s) {
        return s.way + EXTRA[active] + s.hold - 1000;
    }

    private void setError(Station s, int error) {
        s.hold = error + 1000 - s.way - EXTRA[active];
    }

    private List<Station> working() {
        List<Station> list = new ArrayList<>();
        for (Station s : stations) {
            if (s != null && s.working) {
                list.add(s);
            }
        }
        return list;
    }

    int plug(int serial, int way) {
        argument(in(serial, 0, 9999) && in(way, 100, 600));
        for (Station s : stations) {
            argument(s == null || s.serial != serial);
        }
        for (int i = 0; i < 5; i++) {
            if (stations[i] == null) {
                stations[i] = new Station(serial, way);
                return i;
            }
        }
        throw new IllegalStateException();
    }

    void unplug(int unit) {
        at(unit, false);
        stations[unit] = null;
    }

    void contract(int unit, int container, int fixed, int assured, int most, int weight) {
        Station s = at(unit, false);
        argument(in(container, 0, 1) && fixed >= 0 && assured >= 0);
        argument((long) most >= (long) fixed + assured && most <= 60 && in(weight, 1, 9));
        int sum = fixed + assured;
        for (Station t : stations) {
            for (int j = 0; t != null && j < 2; j++) {
                sum += t == s && j == container ? 0 : t.boxes[j].fixed + t.boxes[j].assured;
            }
        }
        state(sum <= 55);
        Box b = s.boxes[container];
        b.fixed = fixed;
        b.assured = assured;
        b.most = most;
        b.weight = weight;
    }

    void drift(int unit, int slots) {
        Station s = at(unit, false);
        argument(in(slots, -2, 2) && in(s.way + slots, 100, 600));
        s.way += slots;
    }

    int send(int unit, int container, int blocks) {
        Station s = at(unit, false);
        argument(in(container, 0, 1) && in(blocks, 1, 20));
        state(s.boxes[container].queue.size() < 8 && datagrams < 100);
        Datagram d = new Datagram();
        d.number = datagrams++;
        d.blocks = blocks;
        s.boxes[container].queue.addLast(d);
        return d.number;
    }

    void key(int unit, int key) {
        Station s = at(unit, false);
        argument(in(key, 0, 99));
        state(s.waitingKey == null);
        s.waitingKey = key;
    }

    void down(int unit, int word) {
        at(unit, false).word = word;
    }

    void spoil(int unit) {
        at(unit, false).spoilt = true;
    }

    void feeder(int feeder, boolean isCut) {
        argument(in(feeder, 0, 1));
        cut[feeder] = isCut;
    }

    void discover() {
        quiet = true;
    }

    int frame() {
        frames++;
        if (cut[active]) {
            dark();
            return -1;
        }
        darkRow = 0;
        if (quiet) {
            quiet = false;
            quietFrame();
            return -2;
        }
        int before = came.size();
        ranging();
        map();
        bursts();
        blocks();
        keys();
        for (Station s : stations) {
            if (s != null) {
                s.spoilt = false;
            }
        }
        return came.size() - before;
    }

    private void dark() {
        darkRow++;
        if (darkRow < 3 || cut[1 - active]) {
            return;
        }
        Map<Station, Integer> errors = new HashMap<>();
        for (Station s : working()) {
            errors.put(s, error(s));
        }
        active = 1 - active;
        errors.forEach(this::setError);
        darkRow = 0;
    }

    private void quietFrame() {
        Map<Integer, List<Station>> windows = new HashMap<>();
        for (Station s : stations) {
            if (s != null && !s.working) {
                int window = (int) ((mix(s.serial, s.answered) & 0xFFFFFFFFL) / 2 % 8);
                windows.computeIfAbsent(window, w -> new ArrayList<>()).add(s);
            }
        }
        for (List<Station> there : windows.values()) {
            for (Station s : there) {
                if (there.size() > 1) {
                    s.answered++;
                } else {
                    s.working = true;
                    setError(s, 0);
                }
            }
        }
    }

    private void ranging() {
        for (Station s : working()) {
            if (!in(error(s), -8, 8)) {
                s.working = false;
                s.answered = 0;
                strays++;
            } else if (!in(error(s), -4, 4)) {
                setError(s, 0);
            }
        }
    }

    private void map() {
        for (Station s : stations) {
            for (int j = 0; s != null && j < 2; j++) {
                s.boxes[j].fromMap = 0;
                s.boxes[j].spare = 0;
            }
        }
        List<Box> boxes = new ArrayList<>();
        for (Station s : working()) {
            boxes.addAll(List.of(s.boxes));
        }
        leftOver = 60 - boxes.size() / 2;
        for (Box b : boxes) {
            int beyond = b.reported - b.fixed;
            b.fromMap = b.fixed + (beyond <= 0 ? 0 : beyond < b.assured ? beyond : b.assured);
            leftOver -= b.fromMap;
        }
        while (leftOver > 0 && boxes.stream().anyMatch(Box::wants)) {
            Box least = boxes.stream().filter(Box::wants)
                    .min((a, b) -> Integer.compare(a.spare * b.weight, b.spare * a.weight)).get();
            least.fromMap++;
            least.spare++;
            leftOver--;
        }
    }

    private void bursts() {
        List<Set<Integer>> bursts = new ArrayList<>();
        int from = 0;
        for (Station s : working()) {
            int length = 16 + 16 * (s.boxes[0].fromMap + s.boxes[1].fromMap);
            Set<Integer> slots = new HashSet<>();
            for (int i = 0; i < length; i++) {
                slots.add(from + i + error(s));
            }
            for (Set<Integer> other : bursts) {
                met += slots.stream().anyMatch(other::contains) ? 1 : 0;
            }
            bursts.add(slots);
            from += length + 32;
        }
    }

    private void blocks() {
        for (int i = 0; i < 5; i++) {
            for (int j = 0; j < 2 && stations[i] != null && stations[i].working; j++) {
                Box b = stations[i].boxes[j];
                int blocks = Math.min(b.fromMap, b.load());
                while (blocks-- > 0) {
                    Datagram d = b.queue.peekFirst();
                    d.sent++;
                    d.came += stations[i].spoilt ? 0 : 1;
                    if (d.sent == d.blocks) {
                        b.queue.removeFirst();
                        end(d, i, j);
                    }
                }
                b.reported = stations[i].spoilt ? b.reported : b.load();
            }
        }
    }

    private void end(Datagram d, int unit, int container) {
        if (d.came == d.blocks) {
            came.add(new int[] {d.number, unit, container, frames});
        } else {
            lost++;
        }
    }

    private void keys() {
        for (Station s : working()) {
            if (s.word != null) {
                s.sentAs = s.word ^ mix(s.inForce, frames);
                if (s.keys.contains(s.inForce)) {
                    s.madeOut = s.sentAs ^ mix(s.inForce, frames);
                }
                s.word = null;
            }
            if (s.waitingKey != null) {
                s.keys.clear();
                s.keys.addAll(List.of(s.inForce, s.waitingKey));
                s.told = s.waitingKey;
                if (!s.spoilt) {
                    s.inForce = s.waitingKey;
                    s.waitingKey = null;
                }
            }
        }
    }

    private static int mix(int a, int b) {
        long low = 0xFFFFFFFFL;
        long h = (a & low) * 0x2545F491L & low;
        h = h ^ h / 32768;
        h = (h ^ b & low) * 0x9E3779B1L & low;
        return (int) (h ^ h / 8192);
    }

    int unit(int unit, int what) {
        Station s = at(unit, true);
        argument(in(what, 0, 6));
        if (s == null) {
            return 0;
        }
        int error = s.working ? error(s) : 0;
        return new int[] {s.working ? 2 : 1, error, s.inForce, s.told, s.madeOut, s.sentAs, s.answered}[what];
    }

    int container(int unit, int container, int what) {
        Station s = at(unit, true);
        argument(in(container, 0, 1) && in(what, 0, 3));
        if (s == null) {
            return 0;
        }
        Box b = s.boxes[container];
        return new int[] {b.load(), b.reported, b.fromMap, b.queue.size()}[what];
    }

    int came(int k, int what) {
        if (!in(k, 0, came.size() - 1)) {
            throw new IndexOutOfBoundsException();
        }
        argument(in(what, 0, 3));
        return came.get(k)[what];
    }

    int count(int which) {
        argument(in(which, 0, 6));
        return new int[] {came.size(), lost, frames, active, met, leftOver, strays}[which];
    }
}
