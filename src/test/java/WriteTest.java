/** Promise 7: write. */
public final class WriteTest {
    public static void main(String[] args) {
        codes();
        messages();
        ownIntent();
        anEarlierOneInTheWay();
        aLaterOneInTheWay();
        writeStamp();
        sixteenVersions(false);
        sixteenVersions(true);
        Checks.end();
    }

    private static void codes() {
        Checks.run("promise 7: the codes, which move no clock", """
            write(-1, 0, 1) = -1
            write(8, 0, 1) = -1
            write(MIN, 0, 1) = -1
            write(MAX, 0, 1) = -1
            write(0, -1, 1) = -1
            write(0, 16, 1) = -1
            write(0, MIN, 1) = -1
            write(0, MAX, 1) = -1
            write(0, 0, 1) = -4
            begin(0) = 0
            write(0, 16, 1) = -1
            abort(0) = 0
            write(0, 0, 1) = -6
            write(0, -1, 1) = -1
            clock(0) = 1
            begin(1) = 1
            commit(1) = 0
            write(1, 1, 1) = -8
            clock(1) = 2
            clean(1) = 0
            write(1, 1, 1) = -4
            """);
        Checks.run("promise 7: hurt is answered once, and nothing else changes", """
            begin(0) = 0
            begin(3) = 1
            write(1, 5, 1) = 0
            write(0, 5, 2) = 0
            clock(3) = 5
            clock(1) = 6
            write(1, 16, 1) = -1
            write(1, 6, 1) = 1
            clock(3) = 5
            clock(2) = 0
            write(1, 6, 1) = 0
            write(1, 5, 1) = -5
            """);
    }

    private static void messages() {
        Checks.run("promise 7: event, there, back; also on one node", """
            begin(0) = 0
            write(0, 0, 1) = 0
            clock(0) = 4
            write(0, 5, 1) = 0
            clock(0) = 7
            clock(1) = 6
            write(0, 5, 2) = 0
            clock(1) = 9
            clock(0) = 10
            clock(2) = 0
            clock(3) = 0
            """);
    }

    private static void ownIntent() {
        Checks.run("promise 7: an own intent gets the new value and stays one intent", """
            begin(0) = 0
            write(0, 3, 1) = 0
            write(0, 3, 2) = 0
            read(0, 3) = 2
            versions(3) = 0
            commit(0) = 0
            clean(0) = 0
            versions(3) = 1
            begin(3) = 0
            read(0, 3) = 2
            """);
        Checks.run("promise 7: an own intent leaves the write stamp as it is", """
            begin(0) = 0
            write(0, 3, 1) = 0
            begin(0) = 1
            read(1, 3) = 0
            write(0, 3, 2) = 0
            commit(0) = 0
            committed(0) = 6
            """);
    }

    private static void anEarlierOneInTheWay() {
        Checks.run("promise 7: one that began before stays, and the gateway hears back all the same", """
            begin(0) = 0
            begin(3) = 1
            write(0, 5, 1) = 0
            clock(0) = 4
            clock(1) = 3
            write(1, 5, 2) = -5
            clock(0) = 5
            clock(1) = 6
            clock(3) = 7
            read(0, 5) = 1
            commit(0) = 0
            committed(0) = 1
            write(1, 5, 2) = 0
            versions(5) = 1
            """);
        Checks.run("promise 7: one that tries later has got nothing", """
            begin(0) = 0
            begin(3) = 1
            read(1, 5) = 0
            write(0, 5, 1) = 0
            write(1, 5, 2) = -5
            commit(1) = 0
            clean(1) = 0
            versions(5) = 0
            committed(0) = 1
            """);
    }

    private static void aLaterOneInTheWay() {
        Checks.run("promise 7: one that began later restarts without its intents and is hurt", """
            begin(0) = 0
            begin(3) = 1
            write(1, 5, 1) = 0
            write(1, 6, 1) = 0
            write(0, 5, 2) = 0
            state(1) = 1
            read(0, 6) = 0
            write(0, 6, 3) = 0
            commit(1) = 1
            read(1, 5) = 0
            commit(0) = 0
            versions(5) = 0
            versions(6) = 0
            clean(0) = 0
            versions(5) = 1
            versions(6) = 1
            """);
        Checks.run("promise 7: it restarts at stamp 0, so its own write stamp is its read stamp then", """
            begin(0) = 0
            begin(3) = 1
            tick(2, 4) = 0
            begin(2) = 2
            read(2, 5) = 0
            write(1, 5, 1) = 0
            stamp(1) = 1
            write(0, 5, 2) = 0
            stamp(1) = 4W+2
            """);
        Checks.run("promise 7: it has read no key then", """
            begin(0) = 0
            begin(3) = 1
            read(1, 6) = 0
            write(1, 5, 1) = 0
            write(0, 5, 2) = 0
            commit(0) = 0
            clean(0) = 0
            write(1, 7, 1) = 1
            tick(0, 4) = 0
            begin(0) = 0
            read(0, 7) = 0
            write(1, 7, 1) = 0
            clock(2) = 3
            commit(1) = 0
            clock(2) = 3
            committed(1) = 4W+2
            """);
    }

    private static void writeStamp() {
        Checks.run("promise 7: the write stamp itself is the greatest", """
            tick(0, 2) = 0
            begin(1) = 0
            read(0, 4) = 0
            write(0, 4, 1) = 0
            commit(0) = 0
            begin(0) = 1
            stamp(1) = 2W+8
            write(1, 4, 2) = 0
            commit(1) = 0
            committed(0) = 2
            committed(1) = 2W+8
            """);
        Checks.run("promise 7: the read mark plus 1 is the greatest", """
            begin(1) = 0
            tick(0, 2) = 0
            begin(0) = 1
            read(1, 4) = 0
            write(0, 4, 1) = 0
            stamp(0) = 1
            commit(0) = 0
            stamp(0) = 2W+2
            committed(0) = 2W+2
            """);
        Checks.run("promise 7: the greatest version plus 1 is the greatest, and a write misses nothing", """
            begin(1) = 0
            tick(0, 2) = 0
            begin(0) = 1
            write(1, 4, 1) = 0
            commit(1) = 0
            write(0, 4, 2) = 0
            stamp(0) = 1
            commit(0) = 0
            committed(0) = 2W+1
            committed(1) = 2W+2
            """);
        Checks.run("promise 7: a key written does not count as read", """
            begin(1) = 0
            write(0, 6, 1) = 0
            tick(0, 2) = 0
            begin(0) = 1
            read(1, 4) = 0
            write(0, 4, 1) = 0
            clock(2) = 3
            commit(0) = 0
            clock(2) = 3
            """);
    }

    /** Sixteen versions are the most; the last becomes one by the clean or only when it is looked up. */
    private static void sixteenVersions(boolean lookedUp) {
        String title = "promise 7: 16 versions, the last " + (lookedUp ? "looked up: " : "cleaned: ");
        HlcStore store = new HlcStore();
        for (int i = 0; i < 16; i++) {
            Checks.due(title + "begin(1)", store.begin(1), 0);
            Checks.due(title + "write " + i, store.write(0, 7, 100 + i), 0);
            Checks.due(title + "commit " + i, store.commit(0), 0);
            if (i < 15 || !lookedUp) {
                Checks.due(title + "clean " + i, store.clean(0), 0);
            }
        }
        int slot = lookedUp ? 1 : 0;
        Checks.due(title + "versions(7)", store.versions(7), lookedUp ? 15 : 16);
        Checks.due(title + "begin(2)", store.begin(2), slot);
        long began = store.stamp(slot);
        long back = store.clock(3);
        Checks.due(title + "the 17th write", store.write(slot, 7, 5), -7);
        Checks.due(title + "versions(7) after it", store.versions(7), 16);
        Checks.due(title + "clock(2) has taken in clock(3)", store.clock(2), store.clock(3) + 1);
        Checks.due(title + "clock(3) has moved", Math.max(back + 1, store.clock(3)), store.clock(3));
        Checks.due(title + "another key", store.write(slot, 6, 5), 0);
        Checks.due(title + "commit", store.commit(slot), 0);
        Checks.due(title + "the refused write left the write stamp", store.committed(16), began);
        Checks.due(title + "clean", store.clean(slot), 0);
        Checks.due(title + "versions(7) at the end", store.versions(7), 16);
        Checks.due(title + "begin(3)", store.begin(3), slot);
        Checks.due(title + "read", store.read(slot, 7), 115);
    }
}
