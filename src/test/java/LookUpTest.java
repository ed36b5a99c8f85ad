/** The terms that the promises 6, 7, 8 lean on: looking up, restarts at, takes in. */
public final class LookUpTest {
    public static void main(String[] args) {
        messages();
        silence();
        ended();
        restart();
        restartMovesTheLimit();
        Checks.end();
    }

    private static void messages() {
        Checks.run("looking up: the gateway of the one with the intent, and back to the owner", """
            begin(2) = 0
            write(0, 1, 5) = 0
            clock(2) = 4
            clock(1) = 3
            begin(3) = 1
            read(1, 1) = 0
            clock(2) = 5
            clock(1) = 6
            clock(3) = 7
            clock(0) = 0
            """);
        Checks.run("looking up: where all the nodes are the same one", """
            begin(1) = 0
            write(0, 1, 5) = 0
            clock(1) = 4
            begin(1) = 1
            read(1, 1) = 0
            clock(1) = 10
            """);
        Checks.run("looking up: a gateway that is ahead takes its owner along", """
            tick(2, 6) = 0
            begin(2) = 0
            begin(3) = 1
            write(0, 1, 5) = 0
            tick(2, 7) = 0
            write(1, 1, 6) = -5
            clock(2) = 7W+1
            clock(1) = 7W+2
            clock(3) = 7W+3
            """);
        Checks.run("looking up: also by commit", """
            begin(0) = 0
            read(0, 1) = 0
            begin(2) = 1
            write(1, 1, 5) = 0
            clock(2) = 5
            tick(3, 4) = 0
            begin(3) = 2
            read(2, 4) = 0
            write(0, 4, 1) = 0
            clock(0) = 4W+6
            commit(0) = 0
            clock(2) = 4W+9
            clock(1) = 4W+10
            clock(0) = 4W+11
            """);
    }

    private static void silence() {
        Checks.run("looking up: a silence of 40 is borne, of 41 not", """
            tickAll(5)
            begin(2) = 0
            write(0, 1, 5) = 0
            tickAll(45)
            begin(1) = 1
            read(1, 1) = 0
            state(0) = 1
            tick(1, 55) = 0
            read(1, 1) = 0
            state(0) = 1
            tick(2, 46) = 0
            state(0) = 1
            read(1, 1) = 0
            state(0) = 3
            commit(0) = -6
            """);
        Checks.run("looking up: by a write, and the silent one is in nobody's way", """
            begin(2) = 0
            write(0, 1, 5) = 0
            write(0, 2, 6) = 0
            tickAll(41)
            begin(1) = 1
            write(1, 1, 7) = 0
            state(0) = 3
            commit(1) = 0
            clean(1) = 0
            clean(0) = 0
            versions(1) = 1
            versions(2) = 0
            """);
        Checks.run("looking up: by a commit, which pushes no silent one", """
            begin(3) = 0
            begin(2) = 1
            write(1, 1, 5) = 0
            tickAll(40)
            begin(0) = 2
            read(2, 1) = 0
            state(1) = 1
            begin(1) = 3
            read(3, 4) = 0
            tick(2, 41) = 0
            write(2, 4, 1) = 0
            commit(2) = 0
            state(1) = 3
            """);
        Checks.run("looking up: silence without an intent in the way harms nobody", """
            begin(2) = 0
            tickAll(60)
            read(0, 1) = 0
            write(0, 1, 3) = 0
            read(0, 1) = 3
            commit(0) = 0
            """);
        Checks.run("looking up: a committed one may be silent", """
            begin(2) = 0
            write(0, 1, 5) = 0
            commit(0) = 0
            tickAll(60)
            begin(1) = 1
            read(1, 1) = 5
            state(0) = 2
            """);
    }

    private static void ended() {
        Checks.run("looking up: only the key that is looked up", """
            begin(2) = 0
            write(0, 1, 5) = 0
            write(0, 5, 6) = 0
            commit(0) = 0
            begin(1) = 1
            write(1, 1, 7) = 0
            versions(1) = 1
            versions(5) = 0
            clean(0) = 0
            versions(1) = 1
            versions(5) = 1
            """);
        Checks.run("looking up: the version has the write stamp, not the read stamp of the begin", """
            begin(2) = 0
            tick(3, 4) = 0
            begin(3) = 1
            read(1, 1) = 0
            write(0, 1, 5) = 0
            commit(0) = 0
            begin(0) = 2
            stamp(2) = 1
            read(2, 1) = C+1
            stamp(2) = 4W+2
            """);
        Checks.run("looking up: a slot used again has none of the old intents", """
            begin(2) = 0
            write(0, 1, 5) = 0
            abort(0) = 0
            clean(0) = 0
            begin(2) = 0
            read(0, 1) = 0
            commit(0) = 0
            clean(0) = 0
            versions(1) = 0
            """);
    }

    private static void restart() {
        Checks.run("restarts at: intents and reads are gone, a greater write stamp stays", """
            begin(0) = 0
            read(0, 6) = 0
            tick(3, 8) = 0
            begin(3) = 1
            read(1, 2) = 0
            write(0, 2, 9) = 0
            tick(1, 3) = 0
            begin(1) = 2
            write(2, 5, 4) = 0
            commit(2) = 0
            committed(0) = 3W+1
            read(0, 5) = C+1
            stamp(0) = 8W+2
            read(0, 2) = 0
            read(0, 5) = 4
            commit(0) = 0
            clean(0) = 0
            versions(2) = 0
            """);
        Checks.run("restarts at: the place in the order stays", """
            begin(0) = 0
            begin(1) = 1
            tick(3, 3) = 0
            begin(3) = 2
            write(2, 5, 4) = 0
            commit(2) = 0
            read(0, 5) = C+1
            stamp(0) = 3W+1
            write(1, 6, 1) = 0
            write(0, 6, 2) = 0
            read(1, 6) = C+1
            """);
        Checks.run("restarts at: the last beat stays", """
            begin(0) = 0
            begin(1) = 1
            write(1, 6, 1) = 0
            tickAll(30)
            write(0, 6, 2) = 0
            commit(1) = 1
            write(1, 7, 1) = 0
            tickAll(41)
            begin(3) = 2
            read(2, 7) = 0
            state(1) = 3
            """);
        Checks.run("restarts at: the mark hurt stays when it happens twice", """
            begin(0) = 0
            begin(1) = 1
            write(1, 6, 1) = 0
            write(0, 6, 2) = 0
            write(1, 7, 1) = 1
            write(1, 7, 1) = 0
            write(0, 7, 2) = 0
            write(1, 8, 1) = 1
            write(1, 8, 1) = 0
            """);
    }

    private static void restartMovesTheLimit() {
        Checks.run("restarts at: a greater limit stays", """
            begin(0) = 0
            tick(1, 5) = 0
            begin(1) = 1
            write(1, 5, 4) = 0
            commit(1) = 0
            read(0, 5) = C+1
            stamp(0) = 5W+1
            tickAll(10)
            tick(2, 11) = 0
            begin(3) = 2
            write(2, 6, 7) = 0
            stamp(2) = 10W+1
            begin(2) = 3
            write(3, 7, 8) = 0
            commit(2) = 0
            commit(3) = 0
            committed(2) = 11W+2
            read(0, 7) = 0
            read(0, 6) = C+1
            stamp(0) = 10W+1
            read(0, 7) = 0
            """);
        Checks.run("restarts at: a lesser limit becomes the read stamp", """
            begin(0) = 0
            begin(0) = 1
            tickAll(20)
            begin(1) = 2
            read(2, 7) = 0
            stamp(2) = 20W+1
            write(1, 7, 8) = 0
            write(0, 7, 9) = 0
            stamp(1) = 20W+2
            read(1, 5) = C+1
            begin(2) = 3
            begin(2) = 4
            stamp(3) = 20W+1
            stamp(4) = 20W+2
            write(3, 5, 1) = 0
            commit(3) = 0
            read(1, 5) = 1
            tick(2, 21) = 0
            begin(2) = 5
            write(5, 6, 2) = 0
            commit(5) = 0
            read(1, 6) = 0
            stamp(1) = 20W+2
            """);
    }
}
