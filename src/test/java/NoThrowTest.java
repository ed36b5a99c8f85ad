import java.util.Random;

/** No call throws, whatever the arguments and the state, also past the 512th call, where answers are free. */
public final class NoThrowTest {
    private static final int[] NUMBERS = {
        Integer.MIN_VALUE, Integer.MIN_VALUE + 1, -2, -1, 0, 1, 2, 3, 4, 5, 7, 8, 9, 10, 11, 15, 16, 17,
        255, 256, 257, 511, 512, Integer.MAX_VALUE - 1, Integer.MAX_VALUE
    };

    public static void main(String[] args) {
        everyNumberOnANewObject();
        longRandomRuns();
        moreCommitsThanAreKept();
        Checks.end();
    }

    private static void everyNumberOnANewObject() {
        for (int a : NUMBERS) {
            for (int b : NUMBERS) {
                HlcStore store = new HlcStore();
                for (int kind = 0; kind < 14; kind++) {
                    call(store, kind, a, b, b);
                }
                Checks.due("begin(0) after odd calls", Math.min(0, store.begin(0)), 0);
                for (int kind = 0; kind < 14; kind++) {
                    call(store, kind, a, b, a);
                }
            }
        }
    }

    private static void longRandomRuns() {
        for (int seed = 0; seed < 60; seed++) {
            Random random = new Random(seed);
            HlcStore store = new HlcStore();
            for (int i = 0; i < 5000; i++) {
                boolean odd = random.nextInt(20) == 0;
                int a = odd ? NUMBERS[random.nextInt(NUMBERS.length)] : random.nextInt(8);
                int b = odd ? NUMBERS[random.nextInt(NUMBERS.length)] : random.nextInt(16);
                int kind = random.nextInt(14);
                if (kind == 0 && !odd) {
                    b = store.reading(a) + random.nextInt(10);
                }
                call(store, kind, a, b, random.nextInt());
            }
        }
    }

    private static void moreCommitsThanAreKept() {
        HlcStore store = new HlcStore();
        for (int i = 0; i < 1000; i++) {
            store.begin(i % 4);
            store.write(0, i % 16, i);
            Checks.due("commit past the limit", store.commit(0), 0);
            store.clean(0);
        }
        Checks.due("committed(100)", Math.min(0, store.committed(100)), 0);
        store.committed(999);
        store.committed(1000);
    }

    private static void call(HlcStore store, int kind, int a, int b, int c) {
        switch (kind) {
            case 0: store.tick(a, b); break;
            case 1: store.reading(a); break;
            case 2: store.clock(a); break;
            case 3: store.begin(a); break;
            case 4: store.read(a, b); break;
            case 5: store.write(a, b, c); break;
            case 6: store.commit(a); break;
            case 7: store.abort(a); break;
            case 8: store.heartbeat(a); break;
            case 9: store.clean(a); break;
            case 10: store.state(a); break;
            case 11: store.stamp(a); break;
            case 12: store.versions(a); break;
            default: store.committed(a); break;
        }
    }
}
