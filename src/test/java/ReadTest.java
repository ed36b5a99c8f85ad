/** Promise 6: read. */
public final class ReadTest {
    public static void main(String[] args) {
        codes();
        messages();
        ownIntent();
        values();
        pushesTheOneInTheWay();
        restartsBehindMissedVersions();
        raisesTheReadMark();
        leavesTheWriteStampOut();
        Checks.end();
    }

    private static void codes() {
        Checks.run("promise 6: the codes, which move no clock", """
            read(-1, 0) = C-1
            read(8, 0) = C-1
            read(MIN, 0) = C-1
            read(MAX, 0) = C-1
            read(0, -1) = C-1
            read(0, 16) = C-1
            read(0, MIN) = C-1
            read(0, MAX) = C-1
            read(0, 0) = C-4
            begin(0) = 0
            read(0, 16) = C-1
            abort(0) = 0
            read(0, 0) = C-6
            read(0, -1) = C-1
            clock(0) = 1
            begin(1) = 1
            commit(1) = 0
            read(1, 1) = C-8
            clock(1) = 2
            clean(0) = 0
            read(0, 0) = C-4
            """);
        Checks.run("promise 6: hurt is answered once, and nothing else changes", """
            begin(0) = 0
            begin(3) = 1
            write(1, 5, 1) = 0
            write(0, 5, 2) = 0
            clock(3) = 5
            clock(1) = 6
            read(1, 16) = C-1
            read(1, 5) = C+1
            clock(3) = 5
            clock(1) = 6
            state(1) = 1
            stamp(1) = 1
            read(1, 5) = 0
            """);
    }

    private static void messages() {
        Checks.run("promise 6: event, there, back; also on one node", """
            begin(0) = 0
            read(0, 0) = 0
            clock(0) = 4
            read(0, 5) = 0
            clock(0) = 7
            clock(1) = 6
            clock(2) = 0
            clock(3) = 0
            """);
        Checks.run("promise 6: the gateway hears back after a restart and after an own intent too", """
            begin(0) = 0
            write(0, 2, 5) = 0
            clock(0) = 4
            read(0, 2) = 5
            clock(2) = 6
            clock(0) = 7
            tick(1, 3) = 0
            begin(1) = 1
            write(1, 3, 8) = 0
            commit(1) = 0
            clean(1) = 0
            clock(3) = 3W+6
            read(0, 3) = C+1
            clock(3) = 3W+7
            clock(0) = 3W+8
            """);
    }

    private static void ownIntent() {
        Checks.run("promise 6: the own intent's value, with its sign", """
            begin(0) = 0
            write(0, 3, -7) = 0
            read(0, 3) = -7
            write(0, 3, MIN) = 0
            read(0, 3) = MIN
            write(0, 3, MAX) = 0
            read(0, 3) = MAX
            write(0, 4, -1) = 0
            read(0, 4) = -1
            """);
        Checks.run("promise 6: the own intent's value leaves the read mark alone", """
            begin(0) = 0
            tick(1, 5) = 0
            begin(1) = 1
            write(1, 3, 9) = 0
            read(1, 3) = 9
            abort(1) = 0
            write(0, 3, 1) = 0
            commit(0) = 0
            committed(0) = 1
            """);
        Checks.run("promise 6: a key of which the own intent was read does not count as read", """
            begin(0) = 0
            tick(1, 5) = 0
            begin(1) = 1
            read(1, 8) = 0
            write(0, 3, 9) = 0
            read(0, 3) = 9
            clock(3) = 5W+8
            write(0, 8, 9) = 0
            commit(0) = 0
            clock(3) = 5W+8
            committed(0) = 5W+2
            """);
    }

    private static void values() {
        Checks.run("promise 6: the version with the greatest stamp not above the read stamp", """
            begin(0) = 0
            read(0, 1) = 0
            write(0, 1, 10) = 0
            commit(0) = 0
            clean(0) = 0
            begin(0) = 0
            begin(0) = 1
            write(1, 1, 20) = 0
            stamp(0) = 11
            commit(1) = 0
            clean(1) = 0
            begin(0) = 1
            read(1, 1) = 20
            tickAll(11)
            begin(1) = 2
            write(2, 1, 30) = 0
            commit(2) = 0
            clean(2) = 0
            versions(1) = 3
            read(1, 1) = 20
            begin(1) = 2
            read(2, 1) = 30
            """);
        Checks.run("promise 6: a version of just the read stamp is seen", """
            begin(0) = 0
            begin(1) = 1
            write(1, 1, -3) = 0
            commit(1) = 0
            committed(0) = 1
            stamp(0) = 1
            read(0, 1) = -3
            stamp(0) = 1
            """);
        Checks.run("promise 6: all values of int", """
            begin(0) = 0
            write(0, 1, MIN) = 0
            write(0, 2, MAX) = 0
            write(0, 3, -1) = 0
            commit(0) = 0
            begin(0) = 1
            read(1, 1) = MIN
            read(1, 2) = MAX
            read(1, 3) = -1
            """);
    }

    private static void pushesTheOneInTheWay() {
        Checks.run("promise 6: an equal write stamp in the way is pushed", """
            begin(0) = 0
            begin(1) = 1
            write(0, 2, 5) = 0
            read(1, 2) = 0
            stamp(0) = 1
            commit(0) = 0
            committed(0) = 2
            """);
        Checks.run("promise 6: a lower write stamp in the way is pushed to the read stamp plus 1", """
            begin(0) = 0
            write(0, 2, 5) = 0
            tick(1, 5) = 0
            begin(1) = 1
            read(1, 2) = 0
            commit(0) = 0
            committed(0) = 5W+2
            """);
        Checks.run("promise 6: a write stamp above the read stamp stays", """
            begin(0) = 0
            tick(1, 5) = 0
            begin(1) = 1
            write(1, 2, 5) = 0
            read(0, 2) = 0
            commit(1) = 0
            committed(0) = 5W+1
            stamp(0) = 1
            """);
        Checks.run("promise 6: behind the one in the way the older version is seen", """
            begin(0) = 0
            write(0, 2, 5) = 0
            commit(0) = 0
            begin(0) = 1
            write(1, 2, 6) = 0
            begin(0) = 2
            read(2, 2) = 5
            state(1) = 1
            read(1, 2) = 6
            """);
    }

    private static void restartsBehindMissedVersions() {
        Checks.run("promise 6: a restart at the greatest stamp that was missed", """
            begin(0) = 0
            tick(1, 3) = 0
            begin(1) = 1
            write(1, 2, 10) = 0
            commit(1) = 0
            clean(1) = 0
            begin(1) = 1
            write(1, 2, 20) = 0
            commit(1) = 0
            clean(1) = 0
            committed(0) = 3W+1
            committed(1) = 3W+6
            write(0, 6, 1) = 0
            read(0, 2) = C+1
            state(0) = 1
            stamp(0) = 3W+6
            read(0, 2) = 20
            read(0, 6) = 0
            """);
        Checks.run("promise 6: versions above the limit do not count as missed", """
            begin(0) = 0
            tickAll(10)
            begin(1) = 1
            write(1, 2, 10) = 0
            commit(1) = 0
            clean(1) = 0
            tick(1, 11) = 0
            begin(1) = 1
            write(1, 2, 20) = 0
            commit(1) = 0
            clean(1) = 0
            committed(0) = 10W+1
            committed(1) = 11W+1
            read(0, 2) = C+1
            stamp(0) = 10W+1
            read(0, 2) = 10
            """);
        Checks.run("promise 6: what the looking up makes a version can be missed", """
            begin(0) = 0
            tick(1, 3) = 0
            begin(1) = 1
            write(1, 2, 10) = 0
            commit(1) = 0
            versions(2) = 0
            read(0, 2) = C+1
            versions(2) = 1
            stamp(0) = 3W+1
            """);
    }

    private static void raisesTheReadMark() {
        Checks.run("promise 6: the read mark is the greatest read stamp", """
            begin(0) = 0
            begin(0) = 1
            tick(1, 5) = 0
            begin(1) = 2
            read(2, 3) = 0
            read(0, 3) = 0
            write(1, 3, 4) = 0
            commit(1) = 0
            committed(0) = 5W+2
            """);
        Checks.run("promise 6: a restart raises no read mark", """
            begin(0) = 0
            begin(0) = 1
            tick(1, 5) = 0
            begin(1) = 2
            read(2, 9) = 0
            write(2, 3, 4) = 0
            commit(2) = 0
            read(1, 3) = C+1
            stamp(1) = 5W+1
            write(0, 3, 6) = 0
            commit(0) = 0
            committed(1) = 5W+2
            """);
    }

    /** Slot 0's write stamp is far above its read stamp, and must not take its place. */
    private static void leavesTheWriteStampOut() {
        Checks.run("promise 6: the one in the way and the read mark go by the read stamp", """
            begin(0) = 0
            tick(1, 5) = 0
            begin(1) = 1
            read(1, 8) = 0
            write(0, 8, 1) = 0
            begin(2) = 2
            begin(3) = 3
            write(2, 6, 5) = 0
            read(0, 6) = 0
            commit(2) = 0
            committed(0) = 2
            read(0, 7) = 0
            write(3, 7, 1) = 0
            commit(3) = 0
            committed(1) = 2
            """);
        Checks.run("promise 6: the value goes by the read stamp", """
            begin(0) = 0
            tickAll(11)
            begin(1) = 1
            write(1, 2, 7) = 0
            commit(1) = 0
            begin(1) = 2
            read(2, 8) = 0
            write(0, 8, 1) = 0
            read(0, 2) = 0
            stamp(0) = 1
            versions(2) = 1
            commit(0) = 1
            read(0, 2) = 7
            """);
    }
}
