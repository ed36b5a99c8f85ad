import java.util.ArrayList;
import java.util.HashSet;
import java.util.List;
import java.util.Map;
import java.util.Random;
import java.util.Set;
import java.util.TreeMap;

/** Random runs of the store beside a second program that is written straight along the document. */
public final class ModelTest {
    private static final int RUNS = 4000;
    private static final int STEPS = 180;
    private static final int ROUNDS_BEFORE = 14;

    public static void main(String[] args) {
        for (int seed = 1; seed <= RUNS; seed++) {
            new Run(seed).go();
        }
        Checks.end();
    }

    /** A run has its own mix of calls and its own few keys, so that transactions meet each other. */
    private static final class Run {
        private final int seed;
        private final Random random;
        private final HlcStore store = new HlcStore();
        private final Model model = new Model();
        private final int keys;
        private final int slots;
        private final int tickShare;
        private final int endShare;

        Run(int seed) {
            this.seed = seed;
            random = new Random(seed);
            keys = 1 + random.nextInt(seed % 3 == 0 ? 16 : 4);
            slots = 2 + random.nextInt(7);
            tickShare = random.nextInt(40);
            endShare = 5 + random.nextInt(25);
        }

        void go() {
            if (seed % 5 == 0) {
                almostFillKey0();
            }
            for (int step = 0; step < STEPS; step++) {
                int before = model.wrongs;
                change(step);
                look(step);
                if (model.wrongs != before) {
                    return;
                }
            }
            for (int i = 0; i < 16; i++) {
                same("clock(" + i + ")", store.clock(i), model.clock(i));
                same("state(" + i + ")", store.state(i), model.state(i));
                same("stamp(" + i + ")", store.stamp(i), model.stamp(i));
                same("versions(" + i + ")", store.versions(i), model.versions(i));
            }
        }

        /** Else a run is too short for a key to get its 16 versions. */
        private void almostFillKey0() {
            for (int i = 0; i < ROUNDS_BEFORE; i++) {
                same("begin(1)", store.begin(1), model.begin(1));
                same("write(0, 0, i)", store.write(0, 0, i), model.write(0, 0, i));
                same("commit(0)", store.commit(0), model.commit(0));
                same("clean(0)", store.clean(0), model.clean(0));
            }
        }

        private void same(String call, long got, long want) {
            if (got != want) {
                model.wrongs++;
            }
            Checks.due("seed " + seed + ": " + call, got, want);
        }

        private int slot() {
            return random.nextInt(50) == 0 ? odd() : random.nextInt(slots);
        }

        private int key() {
            return random.nextInt(50) == 0 ? odd() : random.nextInt(keys);
        }

        private int node() {
            return random.nextInt(50) == 0 ? odd() : random.nextInt(4);
        }

        private int odd() {
            int[] odds = {-1, 4, 8, 15, 16, Integer.MIN_VALUE, Integer.MAX_VALUE};
            return odds[random.nextInt(odds.length)];
        }

        private void change(int step) {
            String at = "step " + step + ": ";
            int dice = random.nextInt(100);
            if (dice < tickShare) {
                int node = node();
                int reading = model.reading(node) + random.nextInt(14) - 1;
                same(at + "tick(" + node + ", " + reading + ")", store.tick(node, reading), model.tick(node, reading));
            } else if (dice < tickShare + endShare) {
                end(at);
            } else if (random.nextInt(5) == 0) {
                int node = node();
                same(at + "begin(" + node + ")", store.begin(node), model.begin(node));
            } else {
                int slot = slot();
                int key = key();
                if (random.nextBoolean()) {
                    same(at + "read(" + slot + ", " + key + ")", store.read(slot, key), model.read(slot, key));
                } else {
                    int value = random.nextInt();
                    same(at + "write(" + slot + ", " + key + ", " + value + ")",
                        store.write(slot, key, value), model.write(slot, key, value));
                }
            }
        }

        private void end(String at) {
            int slot = slot();
            switch (random.nextInt(8)) {
                case 0:
                    same(at + "abort(" + slot + ")", store.abort(slot), model.abort(slot));
                    break;
                case 1:
                    same(at + "heartbeat(" + slot + ")", store.heartbeat(slot), model.heartbeat(slot));
                    break;
                case 2:
                case 3:
                case 4:
                    same(at + "clean(" + slot + ")", store.clean(slot), model.clean(slot));
                    break;
                default:
                    same(at + "commit(" + slot + ")", store.commit(slot), model.commit(slot));
                    break;
            }
        }

        private void look(int step) {
            String at = "after step " + step + ": ";
            int node = node();
            int slot = slot();
            int key = key();
            switch (random.nextInt(6)) {
                case 0: same(at + "reading(" + node + ")", store.reading(node), model.reading(node)); break;
                case 1: same(at + "clock(" + node + ")", store.clock(node), model.clock(node)); break;
                case 2: same(at + "state(" + slot + ")", store.state(slot), model.state(slot)); break;
                case 3: same(at + "stamp(" + slot + ")", store.stamp(slot), model.stamp(slot)); break;
                case 4: same(at + "versions(" + key + ")", store.versions(key), model.versions(key)); break;
                default:
                    int n = random.nextInt(model.log.size() + 2) - 1;
                    same(at + "committed(" + n + ")", store.committed(n), model.committed(n));
                    break;
            }
        }
    }

    private static final class Txn {
        int gateway;
        int beat;
        int place;
        long rs;
        long ws;
        long limit;
        boolean hurt;
        String state = "pending";
        Set<Integer> reads = new HashSet<>();
    }

    private static final class Model {
        int wrongs = 0;
        final int[] readings = new int[4];
        final long[] clocks = new long[4];
        final long[] marks = new long[16];
        final List<TreeMap<Long, Integer>> versions = new ArrayList<>();
        final Txn[] intentOf = new Txn[16];
        final int[] intentValue = new int[16];
        final Map<Integer, Txn> slots = new TreeMap<>();
        final List<Long> log = new ArrayList<>();
        int begun = 0;

        Model() {
            for (int k = 0; k < 16; k++) {
                versions.add(new TreeMap<>());
            }
        }

        void takesIn(int node, long m) {
            long up = (clocks[node] > m ? clocks[node] : m) + 1;
            long wall = (long) readings[node] << 20;
            clocks[node] = up > wall ? up : wall;
        }

        int tick(int node, int reading) {
            if (node < 0 || node > 3) {
                return -1;
            }
            boolean bad = reading < readings[node];
            for (int other = 0; other < 4; other++) {
                bad |= other != node && (long) reading > (long) readings[other] + 10;
            }
            if (bad) {
                return -2;
            }
            readings[node] = reading;
            takesIn(node, clocks[node]);
            return 0;
        }

        int reading(int node) {
            return node < 0 || node > 3 ? -1 : readings[node];
        }

        long clock(int node) {
            return node < 0 || node > 3 ? -1 : clocks[node];
        }

        int begin(int node) {
            if (node < 0 || node > 3) {
                return -1;
            }
            for (int slot = 0; slot < 8; slot++) {
                if (!slots.containsKey(slot)) {
                    takesIn(node, clocks[node]);
                    Txn t = new Txn();
                    t.gateway = node;
                    t.beat = readings[node];
                    t.place = ++begun;
                    t.rs = clocks[node];
                    t.ws = clocks[node];
                    t.limit = ((clocks[node] >> 20) + 10) << 20 | 0xFFFFF;
                    slots.put(slot, t);
                    return slot;
                }
            }
            return -3;
        }

        /** The stopping codes without and with the mark; 0 if none holds. */
        int code(int slot, int key, boolean looksAtMark) {
            if (slot < 0 || slot > 7 || key < 0 || key > 15) {
                return -1;
            }
            Txn t = slots.get(slot);
            if (t == null) {
                return -4;
            }
            if (t.state.equals("aborted")) {
                return -6;
            }
            if (t.state.equals("committed")) {
                return -8;
            }
            if (looksAtMark && t.hurt) {
                t.hurt = false;
                return 1;
            }
            return 0;
        }

        Txn lookUp(int k, Txn t) {
            Txn u = intentOf[k];
            if (u == null || u == t) {
                return null;
            }
            takesIn(u.gateway, clocks[k % 4]);
            takesIn(k % 4, clocks[u.gateway]);
            if (u.state.equals("pending") && readings[u.gateway] - u.beat > 40) {
                u.state = "aborted";
            }
            if (u.state.equals("pending")) {
                return u;
            }
            if (u.state.equals("committed")) {
                versions.get(k).put(u.ws, intentValue[k]);
            }
            intentOf[k] = null;
            return null;
        }

        void restart(Txn t, long at) {
            for (int k = 0; k < 16; k++) {
                if (intentOf[k] == t) {
                    intentOf[k] = null;
                }
            }
            t.reads.clear();
            t.ws = Math.max(t.ws, at);
            t.rs = t.ws;
            t.limit = Math.max(t.limit, t.rs);
        }

        long read(int slot, int key) {
            int code = code(slot, key, true);
            if (code != 0) {
                return 4294967296L + code;
            }
            Txn t = slots.get(slot);
            takesIn(t.gateway, clocks[t.gateway]);
            takesIn(key % 4, clocks[t.gateway]);
            long answer = readThere(t, key);
            takesIn(t.gateway, clocks[key % 4]);
            return answer;
        }

        long readThere(Txn t, int key) {
            if (intentOf[key] == t) {
                return intentValue[key];
            }
            Txn u = lookUp(key, t);
            if (u != null && u.ws <= t.rs) {
                u.ws = t.rs + 1;
            }
            Long missed = versions.get(key).floorKey(t.limit);
            if (missed != null && missed > t.rs) {
                restart(t, missed);
                return 4294967297L;
            }
            marks[key] = Math.max(marks[key], t.rs);
            t.reads.add(key);
            Map.Entry<Long, Integer> seen = versions.get(key).floorEntry(t.rs);
            return seen == null ? 0 : seen.getValue();
        }

        int write(int slot, int key, int value) {
            int code = code(slot, key, true);
            if (code != 0) {
                return code;
            }
            Txn t = slots.get(slot);
            takesIn(t.gateway, clocks[t.gateway]);
            takesIn(key % 4, clocks[t.gateway]);
            int answer = writeThere(t, key, value);
            takesIn(t.gateway, clocks[key % 4]);
            return answer;
        }

        int writeThere(Txn t, int key, int value) {
            if (intentOf[key] == t) {
                intentValue[key] = value;
                return 0;
            }
            Txn u = lookUp(key, t);
            if (u != null && u.place < t.place) {
                return -5;
            }
            if (u != null) {
                restart(u, 0);
                u.hurt = true;
            }
            if (versions.get(key).size() == 16) {
                return -7;
            }
            t.ws = Math.max(t.ws, marks[key] + 1);
            if (!versions.get(key).isEmpty()) {
                t.ws = Math.max(t.ws, versions.get(key).lastKey() + 1);
            }
            intentOf[key] = t;
            intentValue[key] = value;
            return 0;
        }

        int commit(int slot) {
            int code = code(slot, 0, true);
            if (code != 0) {
                return code;
            }
            Txn t = slots.get(slot);
            takesIn(t.gateway, clocks[t.gateway]);
            for (int k = 0; t.ws > t.rs && k < 16; k++) {
                if (!t.reads.contains(k)) {
                    continue;
                }
                takesIn(k % 4, clocks[t.gateway]);
                Txn u = lookUp(k, t);
                if (u != null && u.ws <= t.ws) {
                    u.ws = t.ws + 1;
                }
                boolean changed = !versions.get(k).subMap(t.rs, false, t.ws, true).isEmpty();
                if (!changed) {
                    marks[k] = Math.max(marks[k], t.ws);
                }
                takesIn(t.gateway, clocks[k % 4]);
                if (changed) {
                    restart(t, 0);
                    return 1;
                }
            }
            t.rs = t.ws;
            t.state = "committed";
            log.add(t.ws);
            return 0;
        }

        int abort(int slot) {
            int code = code(slot, 0, false);
            if (code == 0) {
                slots.get(slot).state = "aborted";
            }
            return code;
        }

        int heartbeat(int slot) {
            int code = code(slot, 0, false);
            if (code == 0) {
                Txn t = slots.get(slot);
                takesIn(t.gateway, clocks[t.gateway]);
                t.beat = readings[t.gateway];
            }
            return code;
        }

        int clean(int slot) {
            if (slot < 0 || slot > 7) {
                return -1;
            }
            Txn t = slots.get(slot);
            if (t == null) {
                return -4;
            }
            if (t.state.equals("pending")) {
                return -9;
            }
            for (int k = 0; k < 16; k++) {
                if (intentOf[k] == t) {
                    takesIn(k % 4, clocks[t.gateway]);
                    if (t.state.equals("committed")) {
                        versions.get(k).put(t.ws, intentValue[k]);
                    }
                    intentOf[k] = null;
                }
            }
            slots.remove(slot);
            return 0;
        }

        int state(int slot) {
            if (slot < 0 || slot > 7) {
                return -1;
            }
            Txn t = slots.get(slot);
            return t == null ? 0 : List.of("free", "pending", "committed", "aborted").indexOf(t.state);
        }

        long stamp(int slot) {
            Txn t = slots.get(slot);
            return t == null || t.state.equals("aborted") ? -1 : t.rs;
        }

        int versions(int key) {
            return key < 0 || key > 15 ? -1 : versions.get(key).size();
        }

        long committed(int n) {
            return n < 0 || n >= log.size() ? -1 : log.get(n);
        }
    }
}
