/** Promises 5 and 9 to 13: begin, abort, heartbeat, clean, state, stamp. */
public final class TransactionTest {
    public static void main(String[] args) {
        begin();
        beginInAUsedSlot();
        beginSetsTheLimit();
        beginSetsTheOrder();
        abort();
        heartbeat();
        clean();
        cleanGoesFromTheLeastKey();
        state();
        stamp();
        Checks.end();
    }

    private static void begin() {
        Checks.run("promise 5: an event, then the clock is both stamps", """
            tick(3, 4) = 0
            begin(3) = 0
            clock(3) = 4W+1
            stamp(0) = 4W+1
            state(0) = 1
            begin(3) = 1
            stamp(1) = 4W+2
            commit(1) = 0
            committed(0) = 4W+2
            """);
        Checks.run("promise 5: no such node", """
            begin(-1) = -1
            begin(4) = -1
            begin(MIN) = -1
            begin(MAX) = -1
            state(0) = 0
            clock(0) = 0
            clock(3) = 0
            """);
        Checks.run("promise 5: the least free slot, or none", """
            begin(0) = 0
            begin(0) = 1
            begin(0) = 2
            begin(0) = 3
            begin(0) = 4
            begin(0) = 5
            begin(0) = 6
            begin(0) = 7
            begin(0) = -3
            clock(0) = 8
            begin(1) = -3
            clock(1) = 0
            begin(4) = -1
            abort(5) = 0
            commit(2) = 0
            begin(0) = -3
            clean(5) = 0
            clean(2) = 0
            begin(1) = 2
            begin(1) = 5
            begin(1) = -3
            clock(1) = 2
            """);
    }

    private static void beginInAUsedSlot() {
        Checks.run("promise 5: a new transaction is not hurt", """
            begin(0) = 0
            begin(0) = 1
            write(1, 5, 1) = 0
            write(0, 5, 2) = 0
            abort(1) = 0
            clean(1) = 0
            begin(0) = 1
            read(1, 6) = 0
            """);
        Checks.run("promise 5: a new transaction has read no key", """
            begin(0) = 0
            read(0, 7) = 0
            abort(0) = 0
            clean(0) = 0
            begin(0) = 0
            begin(1) = 1
            read(1, 8) = 0
            begin(2) = 2
            stamp(2) = 1
            write(2, 7, 9) = 0
            commit(2) = 0
            tick(3, 5) = 0
            begin(3) = 3
            read(3, 8) = 0
            write(0, 8, 1) = 0
            clock(3) = 5W+4
            commit(0) = 0
            clock(3) = 5W+4
            """);
    }

    /** Slot 2 begins at stamp 3, so its limit is 11W-1; adding to the stamp would make it 11W+2. */
    private static void beginSetsTheLimit() {
        Checks.run("promise 5: a version within the limit", """
            begin(0) = 0
            begin(0) = 1
            begin(0) = 2
            stamp(2) = 3
            tickAll(10)
            begin(1) = 3
            stamp(3) = 10W+1
            write(3, 1, 5) = 0
            commit(3) = 0
            read(2, 1) = C+1
            stamp(2) = 10W+1
            read(2, 1) = 5
            """);
        Checks.run("promise 5: a version above the limit", """
            begin(0) = 0
            begin(0) = 1
            begin(0) = 2
            stamp(2) = 3
            tickAll(10)
            tick(1, 11) = 0
            begin(1) = 3
            stamp(3) = 11W+1
            write(3, 1, 5) = 0
            commit(3) = 0
            read(2, 1) = 0
            stamp(2) = 3
            """);
    }

    private static void beginSetsTheOrder() {
        Checks.run("promise 5: the order is that of the begins, not of the slots or stamps", """
            begin(0) = 0
            tick(1, 5) = 0
            begin(1) = 1
            abort(0) = 0
            clean(0) = 0
            begin(2) = 0
            stamp(0) = 1
            stamp(1) = 5W+1
            write(0, 9, 1) = 0
            write(1, 9, 2) = 0
            read(0, 3) = C+1
            write(0, 9, 3) = -5
            """);
    }

    private static void abort() {
        Checks.run("promise 9: the codes", """
            abort(-1) = -1
            abort(8) = -1
            abort(MIN) = -1
            abort(MAX) = -1
            abort(0) = -4
            begin(0) = 0
            abort(0) = 0
            state(0) = 3
            abort(0) = -6
            begin(0) = 1
            commit(1) = 0
            abort(1) = -8
            state(1) = 2
            clean(0) = 0
            abort(0) = -4
            """);
        Checks.run("promise 9: no clock moves, and the intents stay until they are looked up", """
            begin(1) = 0
            write(0, 2, 7) = 0
            clock(1) = 4
            clock(2) = 3
            abort(0) = 0
            clock(1) = 4
            clock(2) = 3
            begin(3) = 1
            read(1, 2) = 0
            clock(1) = 5
            clock(2) = 6
            clock(3) = 7
            versions(2) = 0
            """);
        Checks.run("promise 9: the mark hurt is not looked at", """
            begin(0) = 0
            begin(0) = 1
            write(1, 5, 1) = 0
            write(0, 5, 2) = 0
            abort(1) = 0
            state(1) = 3
            read(1, 5) = C-6
            """);
    }

    private static void heartbeat() {
        Checks.run("promise 10: the codes", """
            heartbeat(-1) = -1
            heartbeat(8) = -1
            heartbeat(MIN) = -1
            heartbeat(MAX) = -1
            heartbeat(0) = -4
            begin(0) = 0
            heartbeat(0) = 0
            abort(0) = 0
            heartbeat(0) = -6
            begin(0) = 1
            commit(1) = 0
            clock(0) = 4
            heartbeat(1) = -8
            clock(0) = 4
            """);
        Checks.run("promise 10: an event at the gateway, and the mark hurt is not looked at", """
            begin(0) = 0
            begin(2) = 1
            write(1, 5, 1) = 0
            write(0, 5, 2) = 0
            clock(0) = 7
            clock(2) = 5
            heartbeat(1) = 0
            clock(2) = 6
            clock(0) = 7
            read(1, 5) = C+1
            write(1, 6, 5) = 0
            """);
        Checks.run("promise 10: a beat keeps a transaction alive for 40 units more", """
            begin(0) = 0
            write(0, 1, 5) = 0
            tickAll(30)
            heartbeat(0) = 0
            tickAll(70)
            begin(1) = 1
            read(1, 1) = 0
            state(0) = 1
            tick(0, 71) = 0
            read(1, 1) = 0
            state(0) = 3
            """);
        Checks.run("promise 10: the beat is that of the gateway, even after a silence of more than 40", """
            begin(0) = 0
            write(0, 1, 5) = 0
            tickAll(50)
            heartbeat(0) = 0
            begin(1) = 1
            read(1, 1) = 0
            state(0) = 1
            """);
    }

    private static void clean() {
        Checks.run("promise 11: the codes", """
            clean(-1) = -1
            clean(8) = -1
            clean(MIN) = -1
            clean(MAX) = -1
            clean(0) = -4
            begin(0) = 0
            clean(0) = -9
            state(0) = 1
            abort(0) = 0
            clean(0) = 0
            state(0) = 0
            clean(0) = -4
            """);
        Checks.run("promise 11: intents of a committed transaction become versions", """
            begin(1) = 0
            write(0, 2, 7) = 0
            write(0, 6, -8) = 0
            commit(0) = 0
            clock(1) = 8
            clock(2) = 6
            versions(2) = 0
            versions(6) = 0
            clean(0) = 0
            clock(1) = 8
            clock(2) = 10
            clock(0) = 0
            clock(3) = 0
            versions(2) = 1
            versions(6) = 1
            begin(2) = 0
            read(0, 2) = 7
            read(0, 6) = -8
            """);
        Checks.run("promise 11: intents of an aborted transaction are gone", """
            begin(1) = 0
            write(0, 2, 7) = 0
            abort(0) = 0
            clock(1) = 4
            clock(2) = 3
            clean(0) = 0
            clock(2) = 5
            versions(2) = 0
            begin(2) = 0
            read(0, 2) = 0
            """);
        Checks.run("promise 11: only intents of this transaction, and a slot without any moves no clock", """
            begin(1) = 0
            begin(2) = 1
            write(0, 4, 7) = 0
            write(1, 5, 8) = 0
            commit(0) = 0
            commit(1) = 0
            clean(1) = 0
            versions(4) = 0
            versions(5) = 1
            begin(3) = 1
            read(1, 4) = 7
            clock(0) = 10
            clock(1) = 9
            clean(0) = 0
            clock(0) = 10
            clock(1) = 9
            versions(4) = 1
            """);
    }

    /** The gateway owns the greater key, so the other owner sees its clock before it moves. */
    private static void cleanGoesFromTheLeastKey() {
        Checks.run("promise 11: from the least key", """
            begin(1) = 0
            write(0, 5, 1) = 0
            write(0, 0, 2) = 0
            commit(0) = 0
            clock(0) = 6
            clock(1) = 8
            clean(0) = 0
            clock(0) = 9
            clock(1) = 9
            """);
    }

    private static void state() {
        Checks.run("promise 12: 0 .. 3, or no such slot", """
            state(-1) = -1
            state(8) = -1
            state(MIN) = -1
            state(MAX) = -1
            state(7) = 0
            begin(0) = 0
            begin(0) = 1
            state(0) = 1
            commit(0) = 0
            state(0) = 2
            abort(1) = 0
            state(1) = 3
            clean(0) = 0
            clean(1) = 0
            state(0) = 0
            state(1) = 0
            """);
    }

    private static void stamp() {
        Checks.run("promise 13: the read stamp of a pending or committed transaction", """
            stamp(-1) = -1
            stamp(8) = -1
            stamp(MIN) = -1
            stamp(MAX) = -1
            stamp(0) = -1
            tick(1, 2) = 0
            begin(1) = 0
            read(0, 3) = 0
            begin(0) = 1
            stamp(1) = 1
            write(1, 3, 4) = 0
            stamp(1) = 1
            commit(1) = 0
            stamp(1) = 2W+2
            clean(1) = 0
            stamp(1) = -1
            stamp(0) = 2W+1
            abort(0) = 0
            stamp(0) = -1
            """);
    }
}
