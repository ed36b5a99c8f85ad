import java.util.ArrayList;
import java.util.HashMap;
import java.util.List;
import java.util.Map;
import java.util.Random;

/**
 * What the terms say of the whole: committed transactions behave as if they had run one after another in the
 * order of their stamps, miss nothing committed before they began, and no clock strays by more than 10 units.
 */
public final class SerialTest {
    private static final int RUNS = 3000;
    private static final int STEPS = 250;
    private static final int SLOTS = 5;
    private static final long AGAIN = 4294967297L;

    public static void main(String[] args) {
        int commits = 0;
        for (int seed = 1; seed <= RUNS; seed++) {
            commits += new Run(seed).go();
        }
        System.out.println(commits + " transactions were committed");
        Checks.due("enough transactions were committed to tell", Math.min(commits, 4 * RUNS), 4 * RUNS);
        Checks.end();
    }

    /** What a client has read and written since it last had to start again. */
    private static final class Client {
        final Map<Integer, Integer> reads = new HashMap<>();
        final Map<Integer, Integer> writes = new HashMap<>();
        int committedBefore;
        long stamp;

        void startAgain() {
            reads.clear();
            writes.clear();
        }
    }

    private static final class Run {
        private final int seed;
        private final Random random;
        private final int keys;
        private final HlcStore store = new HlcStore();
        private final Client[] clients = new Client[8];
        private final List<Client> committed = new ArrayList<>();
        private int nextValue = 1;

        Run(int seed) {
            this.seed = seed;
            random = new Random(seed);
            keys = 1 + random.nextInt(5);
        }

        int go() {
            for (int step = 0; step < STEPS; step++) {
                step(random.nextInt(SLOTS), random.nextInt(keys));
                if (step % 20 == 0) {
                    noClockStrays();
                }
            }
            for (Client client : committed) {
                readsAreThoseOfTheOrder(client);
            }
            return committed.size();
        }

        private void step(int slot, int key) {
            switch (random.nextInt(10)) {
                case 0:
                    int node = random.nextInt(4);
                    store.tick(node, store.reading(node) + random.nextInt(11));
                    break;
                case 1:
                    begin();
                    break;
                case 2:
                case 3:
                case 4:
                    read(slot, key);
                    break;
                case 5:
                case 6:
                    write(slot, key);
                    break;
                case 7:
                    commit(slot);
                    break;
                default:
                    store.clean(slot);
                    break;
            }
        }

        private void begin() {
            int slot = store.begin(random.nextInt(4));
            if (slot >= 0) {
                clients[slot] = new Client();
                clients[slot].committedBefore = committed.size();
            }
        }

        private void read(int slot, int key) {
            long answer = store.read(slot, key);
            Client client = clients[slot];
            if (answer == AGAIN) {
                client.startAgain();
            } else if (answer <= Integer.MAX_VALUE && !client.writes.containsKey(key)) {
                client.reads.put(key, (int) answer);
            }
        }

        private void write(int slot, int key) {
            int value = nextValue++;
            int answer = store.write(slot, key, value);
            if (answer == 1) {
                clients[slot].startAgain();
            } else if (answer == 0) {
                clients[slot].writes.put(key, value);
            }
        }

        private void commit(int slot) {
            int answer = store.commit(slot);
            if (answer == 1) {
                clients[slot].startAgain();
            } else if (answer == 0) {
                clients[slot].stamp = store.stamp(slot);
                Checks.due("seed " + seed + ": committed", store.committed(committed.size()), clients[slot].stamp);
                committed.add(clients[slot]);
            }
        }

        private void noClockStrays() {
            for (int node = 0; node < 4; node++) {
                long ahead = store.clock(node) / 1048576L - store.reading(node);
                Checks.due("seed " + seed + ": a clock strays by " + ahead, ahead >= 0 && ahead <= 10 ? 1 : 0, 1);
            }
        }

        private void readsAreThoseOfTheOrder(Client client) {
            for (Map.Entry<Integer, Integer> read : client.reads.entrySet()) {
                Client last = null;
                for (int i = 0; i < committed.size(); i++) {
                    Client other = committed.get(i);
                    if (other == client || !other.writes.containsKey(read.getKey())) {
                        continue;
                    }
                    if (i < client.committedBefore) {
                        Checks.due("seed " + seed + ": committed before the begin, so its stamp is not above",
                            Math.max(other.stamp, client.stamp), client.stamp);
                    }
                    if (other.stamp <= client.stamp && (last == null || other.stamp > last.stamp)) {
                        last = other;
                    }
                }
                int due = last == null ? 0 : last.writes.get(read.getKey());
                Checks.due("seed " + seed + ": read of key " + read.getKey(), read.getValue(), due);
            }
        }
    }
}
