/** Promises 1 to 4: a new object, tick, reading, clock. */
public final class NodeTest {
    public static void main(String[] args) {
        newObjectIsEmpty();
        newObjectHasNoReadMarks();
        newObjectsShareNothing();
        tick();
        reading();
        clock();
        Checks.end();
    }

    private static void newObjectIsEmpty() {
        HlcStore store = new HlcStore();
        for (int node = 0; node < 4; node++) {
            Checks.due("promise 1: reading(" + node + ")", store.reading(node), 0);
            Checks.due("promise 1: clock(" + node + ")", store.clock(node), 0);
        }
        for (int slot = 0; slot < 8; slot++) {
            Checks.due("promise 1: state(" + slot + ")", store.state(slot), 0);
            Checks.due("promise 1: stamp(" + slot + ")", store.stamp(slot), -1);
        }
        for (int key = 0; key < 16; key++) {
            Checks.due("promise 1: versions(" + key + ")", store.versions(key), 0);
        }
        Checks.due("promise 1: committed(0)", store.committed(0), -1);
        Checks.due("promise 1: begin(0)", store.begin(0), 0);
        for (int key = 0; key < 16; key++) {
            Checks.due("promise 1: read(0, " + key + ")", store.read(0, key), 0);
        }
    }

    /** A read mark above 0 would lift the write stamp above the clock of the begin, which is 1. */
    private static void newObjectHasNoReadMarks() {
        HlcStore store = new HlcStore();
        store.begin(2);
        for (int key = 0; key < 16; key++) {
            Checks.due("promise 1: write(0, " + key + ", 1)", store.write(0, key, 1), 0);
        }
        store.commit(0);
        Checks.due("promise 1: committed(0) after a write of all keys", store.committed(0), 1);
    }

    private static void newObjectsShareNothing() {
        HlcStore used = new HlcStore();
        used.tick(0, 9);
        used.begin(0);
        used.write(0, 3, 8);
        used.commit(0);
        HlcStore fresh = new HlcStore();
        Checks.due("promise 1: reading(0) beside a used object", fresh.reading(0), 0);
        Checks.due("promise 1: state(0) beside a used object", fresh.state(0), 0);
        Checks.due("promise 1: committed(0) beside a used object", fresh.committed(0), -1);
    }

    private static void tick() {
        Checks.run("promise 2: the reading is shown, then there is an event", """
            tick(2, 7) = 0
            reading(2) = 7
            clock(2) = 7W
            reading(1) = 0
            clock(1) = 0
            tick(2, 7) = 0
            clock(2) = 7W+1
            tick(2, 8) = 0
            clock(2) = 8W
            tick(0, 0) = 0
            clock(0) = 1
            """);
        Checks.run("promise 2: below what it showed", """
            tick(0, 3) = 0
            tick(0, 2) = -2
            tick(0, 0) = -2
            tick(0, -1) = -2
            tick(0, MIN) = -2
            tick(1, -1) = -2
            reading(0) = 3
            clock(0) = 3W
            reading(1) = 0
            clock(1) = 0
            """);
        Checks.run("promise 2: more than 10 above another node", """
            tick(0, 11) = -2
            tick(0, MAX) = -2
            reading(0) = 0
            clock(0) = 0
            tick(0, 10) = 0
            tick(1, 10) = 0
            tick(2, 10) = 0
            tick(0, 11) = -2
            tick(3, 1) = 0
            tick(0, 12) = -2
            tick(0, 11) = 0
            reading(0) = 11
            tick(3, 11) = 0
            tick(3, 20) = 0
            tick(3, 21) = -2
            clock(3) = 20W
            """);
        Checks.run("promise 2: each of the other nodes holds a node back", """
            tick(1, 5) = 0
            tick(2, 5) = 0
            tick(3, 5) = 0
            tick(3, 11) = -2
            tick(2, 11) = -2
            tick(1, 11) = -2
            tick(0, 5) = 0
            tick(3, 6) = 0
            tick(2, 6) = 0
            tick(0, 16) = -2
            tick(0, 15) = 0
            tick(1, 6) = 0
            tick(0, 16) = 0
            """);
        Checks.run("promise 2: no such node comes before a bad reading", """
            tick(-1, 5) = -1
            tick(4, 5) = -1
            tick(MIN, -1) = -1
            tick(MAX, 11) = -1
            """);
        Checks.run("promise 2: a clock ahead of the reading only goes up by 1", """
            tick(0, 10) = 0
            begin(0) = 0
            write(0, 1, 5) = 0
            clock(1) = 10W+3
            tick(1, 9) = 0
            clock(1) = 10W+4
            tick(1, 10) = 0
            clock(1) = 10W+5
            """);
    }

    private static void reading() {
        Checks.run("promise 3: what the physical clock shows, whatever the clock is", """
            tick(0, 10) = 0
            tick(3, 4) = 0
            begin(0) = 0
            write(0, 3, 1) = 0
            commit(0) = 0
            reading(0) = 10
            reading(1) = 0
            reading(2) = 0
            reading(3) = 4
            reading(-1) = -1
            reading(4) = -1
            reading(MIN) = -1
            reading(MAX) = -1
            """);
    }

    private static void clock() {
        Checks.run("promise 4: the clock, which asking leaves alone", """
            tick(1, 3) = 0
            begin(1) = 0
            clock(1) = 3W+1
            clock(1) = 3W+1
            clock(0) = 0
            read(0, 2) = 0
            clock(2) = 3W+3
            clock(1) = 3W+4
            clock(3) = 0
            clock(-1) = -1
            clock(4) = -1
            clock(MIN) = -1
            clock(MAX) = -1
            """);
    }
}
