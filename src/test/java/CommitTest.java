/** Promises 8, 14 and 15: commit, versions, committed. */
public final class CommitTest {
    public static void main(String[] args) {
        codes();
        withoutReadsToMove();
        movesReads();
        changedKeys();
        pushesTheOneInTheWay();
        raisesReadMarks();
        versions();
        committed();
        mostCommits();
        Checks.end();
    }

    private static void codes() {
        Checks.run("promise 8: the codes, which move no clock", """
            commit(-1) = -1
            commit(8) = -1
            commit(MIN) = -1
            commit(MAX) = -1
            commit(0) = -4
            begin(0) = 0
            abort(0) = 0
            commit(0) = -6
            clock(0) = 1
            begin(1) = 1
            commit(1) = 0
            commit(1) = -8
            clock(1) = 2
            committed(1) = -1
            """);
        Checks.run("promise 8: hurt is answered once, and nothing else changes", """
            begin(0) = 0
            begin(3) = 1
            write(1, 5, 1) = 0
            write(0, 5, 2) = 0
            clock(3) = 5
            commit(1) = 1
            clock(3) = 5
            state(1) = 1
            committed(0) = -1
            commit(1) = 0
            committed(0) = 1
            """);
    }

    private static void withoutReadsToMove() {
        Checks.run("promise 8: the write stamp is not above the read stamp: an event alone", """
            begin(0) = 0
            read(0, 2) = 0
            clock(0) = 4
            clock(2) = 3
            commit(0) = 0
            clock(0) = 5
            clock(2) = 3
            state(0) = 2
            stamp(0) = 1
            committed(0) = 1
            """);
        Checks.run("promise 8: the intents stay, also after a commit", """
            begin(0) = 0
            write(0, 2, 8) = 0
            commit(0) = 0
            versions(2) = 0
            begin(1) = 1
            clock(0) = 5
            read(1, 2) = 8
            clock(0) = 6
            versions(2) = 1
            """);
    }

    /** Slot 1 lifts the read mark of key 8, so that slot 0's write stamp goes above its read stamp. */
    private static void movesReads() {
        Checks.run("promise 8: each key read, from the least: there and back", """
            begin(0) = 0
            read(0, 5) = 0
            read(0, 2) = 0
            read(0, 2) = 0
            tick(3, 5) = 0
            begin(3) = 1
            read(1, 8) = 0
            write(0, 8, 1) = 0
            clock(0) = 5W+6
            clock(1) = 3
            clock(2) = 9
            commit(0) = 0
            clock(2) = 5W+8
            clock(1) = 5W+10
            clock(0) = 5W+11
            clock(3) = 5W+4
            stamp(0) = 5W+2
            committed(0) = 5W+2
            state(0) = 2
            """);
        Checks.run("promise 8: an own intent on a key read is no hindrance", """
            begin(0) = 0
            read(0, 6) = 0
            write(0, 6, 9) = 0
            clock(0) = 7
            clock(2) = 6
            commit(0) = 0
            clock(2) = 9
            clock(0) = 10
            committed(0) = 2
            clean(0) = 0
            versions(6) = 1
            """);
    }

    private static void changedKeys() {
        Checks.run("promise 8: a changed key restarts, and the keys behind it are not gone through", """
            begin(0) = 0
            read(0, 5) = 0
            read(0, 6) = 0
            read(0, 7) = 0
            tick(2, 5) = 0
            begin(2) = 1
            write(1, 6, 4) = 0
            commit(1) = 0
            begin(2) = 2
            read(2, 8) = 0
            write(0, 8, 1) = 0
            clock(3) = 9
            committed(0) = 5W+1
            clock(0) = 5W+11
            clock(1) = 3
            clock(2) = 5W+9
            commit(0) = 1
            clock(1) = 5W+13
            clock(2) = 5W+17
            clock(0) = 5W+18
            clock(3) = 9
            versions(6) = 1
            state(0) = 1
            stamp(0) = 5W+7
            read(0, 8) = 0
            read(0, 6) = 4
            commit(0) = 0
            committed(1) = 5W+7
            clean(0) = 0
            versions(8) = 0
            """);
        Checks.run("promise 8: a version of just the write stamp is a change", """
            begin(0) = 0
            read(0, 7) = 0
            tick(1, 5) = 0
            tick(2, 5) = 0
            begin(1) = 1
            read(1, 8) = 0
            begin(2) = 2
            begin(2) = 3
            stamp(3) = 5W+2
            write(3, 7, 9) = 0
            commit(3) = 0
            write(0, 8, 1) = 0
            commit(0) = 1
            stamp(0) = 5W+2
            """);
        Checks.run("promise 8: a version above the write stamp is none", """
            begin(0) = 0
            read(0, 7) = 0
            tick(1, 5) = 0
            tick(2, 5) = 0
            begin(1) = 1
            read(1, 8) = 0
            begin(2) = 2
            begin(2) = 3
            begin(2) = 4
            stamp(4) = 5W+3
            write(4, 7, 9) = 0
            commit(4) = 0
            write(0, 8, 1) = 0
            commit(0) = 0
            stamp(0) = 5W+2
            versions(7) = 1
            """);
        Checks.run("promise 8: a version of just the read stamp is none", """
            tick(1, 5) = 0
            tick(2, 5) = 0
            begin(0) = 0
            begin(2) = 1
            write(1, 7, 9) = 0
            commit(1) = 0
            read(0, 7) = C+1
            stamp(0) = 5W+1
            read(0, 7) = 9
            begin(1) = 2
            begin(1) = 3
            stamp(3) = 5W+2
            read(3, 8) = 0
            write(0, 8, 1) = 0
            commit(0) = 0
            stamp(0) = 5W+3
            """);
    }

    private static void pushesTheOneInTheWay() {
        Checks.run("promise 8: a write stamp in the way that is not above is pushed", """
            begin(0) = 0
            read(0, 7) = 0
            begin(2) = 1
            write(1, 7, 9) = 0
            tick(1, 5) = 0
            begin(1) = 2
            read(2, 8) = 0
            write(0, 8, 1) = 0
            commit(0) = 0
            commit(1) = 0
            committed(0) = 5W+2
            committed(1) = 5W+3
            """);
        Checks.run("promise 8: an equal one too, and one above is left", """
            begin(0) = 0
            read(0, 7) = 0
            read(0, 6) = 0
            tick(1, 5) = 0
            tick(2, 5) = 0
            begin(2) = 1
            begin(2) = 2
            begin(2) = 3
            stamp(2) = 5W+2
            stamp(3) = 5W+3
            write(2, 7, 9) = 0
            write(3, 6, 9) = 0
            begin(1) = 4
            stamp(4) = 5W+1
            read(4, 8) = 0
            write(0, 8, 1) = 0
            commit(0) = 0
            commit(2) = 0
            commit(3) = 0
            committed(0) = 5W+2
            committed(1) = 5W+3
            committed(2) = 5W+3
            """);
    }

    private static void raisesReadMarks() {
        Checks.run("promise 8: the read mark of a key that has not changed becomes the write stamp", """
            begin(0) = 0
            begin(0) = 1
            read(0, 7) = 0
            tick(1, 5) = 0
            begin(1) = 2
            read(2, 8) = 0
            write(0, 8, 1) = 0
            commit(0) = 0
            write(1, 7, 3) = 0
            commit(1) = 0
            committed(0) = 5W+2
            committed(1) = 5W+3
            """);
        Checks.run("promise 8: the read mark of a changed key is left", """
            begin(0) = 0
            begin(0) = 1
            read(0, 7) = 0
            tick(1, 5) = 0
            tick(2, 5) = 0
            begin(2) = 2
            write(2, 7, 9) = 0
            commit(2) = 0
            begin(1) = 3
            begin(1) = 4
            begin(1) = 5
            stamp(5) = 5W+3
            read(5, 8) = 0
            write(0, 8, 1) = 0
            commit(0) = 1
            stamp(0) = 5W+4
            write(1, 7, 3) = 0
            commit(1) = 0
            committed(0) = 5W+1
            committed(1) = 5W+2
            """);
        Checks.run("promise 8: a commit without keys to go through raises no read mark", """
            begin(0) = 0
            tick(1, 5) = 0
            begin(1) = 1
            write(1, 7, 3) = 0
            commit(1) = 0
            write(0, 6, 1) = 0
            commit(0) = 0
            committed(1) = 1
            """);
    }

    private static void versions() {
        Checks.run("promise 14: versions, of which intents are none", """
            versions(-1) = -1
            versions(16) = -1
            versions(MIN) = -1
            versions(MAX) = -1
            versions(0) = 0
            versions(15) = 0
            begin(0) = 0
            write(0, 15, 1) = 0
            versions(15) = 0
            commit(0) = 0
            versions(15) = 0
            clean(0) = 0
            versions(15) = 1
            versions(14) = 0
            begin(0) = 0
            write(0, 15, 1) = 0
            commit(0) = 0
            begin(0) = 1
            read(1, 15) = 1
            versions(15) = 2
            clean(0) = 0
            versions(15) = 2
            begin(0) = 0
            write(0, 15, 1) = 0
            abort(0) = 0
            clean(0) = 0
            versions(15) = 2
            """);
    }

    private static void committed() {
        Checks.run("promise 15: write stamps in the order of the commits", """
            committed(0) = -1
            committed(-1) = -1
            committed(MIN) = -1
            committed(MAX) = -1
            begin(0) = 0
            tick(1, 5) = 0
            begin(1) = 1
            begin(0) = 2
            commit(1) = 0
            committed(0) = 5W+1
            committed(1) = -1
            abort(2) = 0
            committed(1) = -1
            commit(0) = 0
            committed(0) = 5W+1
            committed(1) = 1
            committed(2) = -1
            clean(0) = 0
            clean(1) = 0
            begin(3) = 0
            committed(0) = 5W+1
            committed(1) = 1
            committed(-1) = -1
            """);
    }

    /** As many as 512 calls leave room for, with the calls that look at them. */
    private static void mostCommits() {
        HlcStore store = new HlcStore();
        int commits = 165;
        for (int i = 0; i < commits; i++) {
            store.begin(0);
            store.commit(0);
            store.clean(0);
        }
        for (int i = 0; i < 16; i++) {
            int n = i * 10 + 4;
            Checks.due("promise 15: committed(" + n + ") of many", store.committed(n), 2L * n + 1);
        }
        Checks.due("promise 15: committed of the last", store.committed(commits - 1), 2L * commits - 1);
    }
}
