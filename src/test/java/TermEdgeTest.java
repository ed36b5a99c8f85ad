/** The boundary cases of the terms that several promises use: looking up, restarts at, and the store as a whole. */
public final class TermEdgeTest {
    public static void main(String[] args) {
        lookingUpAsksTheGateway();
        silence();
        silenceOfOnesThatHaveEnded();
        endedIntents();
        restartTakesIntentsAndReads();
        restartMovesTheStamps();
        restartMovesTheLimit();
        restartLeavesAllElse();
        hurtAgain();
        keysAndTheirOwners();
        nothingIsMissed();
        Checks.end();
    }

    private static void lookingUpAsksTheGateway() {
        String sentence = "g takes in o's clock, then o takes in g's clock.";
        Quotes.term(6, sentence, "the gateway is behind", """
            begin(2) = 0
            write(0, 1, 5) = 0
            begin(3) = 1
            clock(2) = 4
            clock(1) = 3
            read(1, 1) = 0
            clock(2) = 5
            clock(1) = 6
            clock(3) = 7
            """);
        Quotes.term(6, sentence, "the gateway is ahead", """
            begin(2) = 0
            write(0, 1, 5) = 0
            tick(2, 3) = 0
            begin(3) = 1
            read(1, 1) = 0
            clock(2) = 3W+1
            clock(1) = 3W+2
            clock(3) = 3W+3
            """);
        Quotes.term(7, sentence, "also where the intent is settled by it", """
            begin(2) = 0
            write(0, 1, 5) = 0
            abort(0) = 0
            tick(2, 3) = 0
            begin(3) = 1
            write(1, 1, 6) = 0
            clock(2) = 3W+1
            clock(1) = 3W+2
            clock(3) = 3W+3
            """);
    }

    private static void silence() {
        String sentence = "If U is pending and the reading of g less U's last beat is more than 40, U becomes aborted.";
        String slot0WritesAt5AndSlot2HasRead = """
            tickAll(5)
            begin(2) = 0
            begin(3) = 1
            begin(3) = 2
            read(2, 1) = 0
            write(0, 1, 5) = 0
            """;
        Quotes.term(6, sentence, "40", slot0WritesAt5AndSlot2HasRead + "tickAll(45)\n read(1, 1) = 0\n state(0) = 1");
        Quotes.term(6, sentence, "41", slot0WritesAt5AndSlot2HasRead + "tickAll(46)\n read(1, 1) = 0\n state(0) = 3");
        Quotes.term(7, sentence, "40", slot0WritesAt5AndSlot2HasRead + "tickAll(45)\n write(1, 1, 6) = -5\n state(0) = 1");
        Quotes.term(7, sentence, "41", slot0WritesAt5AndSlot2HasRead + "tickAll(46)\n write(1, 1, 6) = 0\n state(0) = 3");
        String late = "tickAll(45)\n begin(1) = 3\n read(3, 6) = 0\n write(2, 6, 1) = 0\n";
        Quotes.term(8, sentence, "40", slot0WritesAt5AndSlot2HasRead + late + "commit(2) = 0\n stamp(2) = 45W+2\n state(0) = 1");
        Quotes.term(8, sentence, "41", slot0WritesAt5AndSlot2HasRead + late
            + "tick(2, 46) = 0\n commit(2) = 0\n stamp(2) = 45W+2\n state(0) = 3");
        Quotes.term(6, sentence, "the reading of its gateway, not of the owner or of the reader's gateway",
            slot0WritesAt5AndSlot2HasRead + """
            tickAll(45)
            tick(1, 55) = 0
            tick(3, 55) = 0
            tick(0, 55) = 0
            read(1, 1) = 0
            state(0) = 1
            tick(2, 46) = 0
            read(1, 1) = 0
            state(0) = 3
            """);
        Quotes.term(6, sentence, "no harm before the key is looked up", slot0WritesAt5AndSlot2HasRead + """
            tickAll(100)
            read(1, 2) = 0
            write(1, 5, 1) = 0
            state(0) = 1
            commit(0) = 0
            """);
        Quotes.term(6, sentence, "it has no stamp then, and its other intents come to nothing", """
            begin(2) = 0
            write(0, 1, 5) = 0
            write(0, 15, 6) = 0
            tickAll(41)
            begin(3) = 1
            read(1, 1) = 0
            stamp(0) = -1
            heartbeat(0) = -6
            read(1, 15) = 0
            versions(15) = 0
            clean(0) = 0
            """);
    }

    private static void silenceOfOnesThatHaveEnded() {
        String sentence = "If U is pending and the reading of g less U's last beat is more than 40, U becomes aborted.";
        Quotes.term(6, sentence, "a committed one stays committed", """
            begin(2) = 0
            write(0, 1, 5) = 0
            commit(0) = 0
            tickAll(41)
            begin(3) = 1
            read(1, 1) = 5
            state(0) = 2
            versions(1) = 1
            """);
    }

    private static void endedIntents() {
        String sentence = "is U committed, the intent becomes a version of k with U's write stamp; "
            + "is U aborted, the intent is gone; is U pending, the intent stays, and U STANDS IN THE WAY.";
        Quotes.term(6, sentence, "committed, with a write stamp above its begin's", """
            begin(0) = 0
            begin(1) = 1
            begin(1) = 2
            begin(3) = 3
            read(2, 2) = 0
            write(0, 2, 7) = 0
            commit(0) = 0
            versions(2) = 0
            read(3, 2) = C+1
            stamp(3) = 3
            versions(2) = 1
            read(3, 2) = 7
            """);
        Quotes.term(6, sentence, "aborted", """
            begin(0) = 0
            write(0, 2, 7) = 0
            abort(0) = 0
            begin(1) = 1
            read(1, 2) = 0
            versions(2) = 0
            write(1, 2, 8) = 0
            read(1, 2) = 8
            """);
        Quotes.term(6, sentence, "pending", """
            begin(0) = 0
            write(0, 2, 7) = 0
            begin(1) = 1
            read(1, 2) = 0
            versions(2) = 0
            read(0, 2) = 7
            """);
        Quotes.term(6, sentence, "the key that is looked up alone", """
            begin(0) = 0
            write(0, 2, 7) = 0
            write(0, 6, 8) = 0
            commit(0) = 0
            begin(1) = 1
            read(1, 2) = 7
            versions(2) = 1
            versions(6) = 0
            """);
    }

    private static void restartTakesIntentsAndReads() {
        String sentence = "its intents are all gone, it has read no key";
        String slot0WillRestart = """
            begin(0) = 0
            begin(1) = 1
            begin(1) = 2
            write(2, 6, 9) = 0
            commit(2) = 0
            """;
        Quotes.term(6, sentence, "intents on the least and the greatest key", slot0WillRestart + """
            write(0, 0, 7) = 0
            write(0, 15, 7) = 0
            read(0, 6) = C+1
            read(0, 0) = 0
            read(0, 15) = 0
            write(1, 0, 8) = 0
            write(1, 15, 8) = 0
            commit(0) = 0
            clean(0) = 0
            versions(0) = 0
            versions(15) = 0
            """);
        Quotes.term(6, sentence, "intents of others stay", slot0WillRestart + """
            write(1, 0, 8) = 0
            write(0, 15, 7) = 0
            read(0, 6) = C+1
            read(1, 0) = 8
            """);
        Quotes.term(6, sentence, "reads of the least and the greatest key", """
            begin(2) = 0
            begin(1) = 1
            begin(1) = 2
            write(2, 5, 9) = 0
            commit(2) = 0
            read(0, 0) = 0
            read(0, 15) = 0
            read(0, 5) = C+1
            clock(0) = 3
            clock(3) = 6
            begin(1) = 3
            read(3, 6) = 0
            write(0, 6, 1) = 0
            commit(0) = 0
            stamp(0) = 13
            clock(0) = 3
            clock(3) = 6
            """);
    }

    private static void restartMovesTheStamps() {
        String sentence = "its write stamp becomes the greater of itself and t, its read stamp becomes its write stamp";
        String versionAt3 = """
            begin(0) = 0
            begin(1) = 1
            begin(1) = 2
            begin(1) = 3
            begin(2) = 4
            begin(2) = 5
            begin(2) = 6
            write(3, 6, 9) = 0
            commit(3) = 0
            clean(3) = 0
            """;
        Quotes.term(6, sentence, "t is greater", versionAt3 + """
            read(0, 6) = C+1
            stamp(0) = 3
            commit(0) = 0
            committed(1) = 3
            """);
        Quotes.term(6, sentence, "t is greater than a write stamp that is above the read stamp", versionAt3 + """
            read(1, 8) = 0
            write(0, 8, 1) = 0
            read(0, 6) = C+1
            stamp(0) = 3
            """);
        Quotes.term(6, sentence, "t is equal", versionAt3 + """
            read(2, 8) = 0
            write(0, 8, 1) = 0
            read(0, 6) = C+1
            stamp(0) = 3
            """);
        Quotes.term(6, sentence, "t is less", versionAt3 + """
            read(6, 8) = 0
            write(0, 8, 1) = 0
            stamp(0) = 1
            read(0, 6) = C+1
            stamp(0) = 4
            commit(0) = 0
            committed(1) = 4
            """);
    }

    /** A lesser limit shows in no answer: with it or with the read stamp as limit, no version is missed. */
    private static void restartMovesTheLimit() {
        String sentence = "its limit becomes the greater of itself and its read stamp";
        Quotes.term(6, sentence, "a greater limit stays: a version within it is missed as before", """
            begin(0) = 0
            tick(1, 5) = 0
            begin(1) = 1
            write(1, 2, 5) = 0
            commit(1) = 0
            read(0, 2) = C+1
            stamp(0) = 5W+1
            tickAll(10)
            begin(3) = 2
            write(2, 3, 6) = 0
            commit(2) = 0
            committed(1) = 10W+1
            read(0, 3) = C+1
            stamp(0) = 10W+1
            """);
        Quotes.term(6, sentence, "a greater limit stays: it is not 10 more than the new read stamp", """
            begin(0) = 0
            tick(1, 5) = 0
            begin(1) = 1
            write(1, 2, 5) = 0
            commit(1) = 0
            read(0, 2) = C+1
            stamp(0) = 5W+1
            tickAll(11)
            begin(3) = 2
            write(2, 3, 6) = 0
            commit(2) = 0
            committed(1) = 11W+1
            read(0, 3) = 0
            stamp(0) = 5W+1
            """);
        Quotes.term(7, sentence, "a lesser limit: it is the read stamp, and not 10 more", """
            begin(0) = 0
            begin(0) = 1
            tickAll(20)
            begin(1) = 2
            read(2, 7) = 0
            write(1, 7, 8) = 0
            write(0, 7, 9) = 0
            stamp(1) = 20W+2
            commit(1) = 1
            tick(2, 21) = 0
            begin(2) = 3
            write(3, 6, 2) = 0
            commit(3) = 0
            committed(0) = 21W+1
            read(1, 6) = 0
            stamp(1) = 20W+2
            """);
    }

    private static void restartLeavesAllElse() {
        String sentence = "All else stays.";
        String slot0Restarts = """
            begin(0) = 0
            begin(1) = 1
            begin(1) = 2
            write(2, 6, 9) = 0
            commit(2) = 0
            read(0, 6) = C+1
            """;
        Quotes.term(6, sentence, "its state", slot0Restarts + "state(0) = 1\n clean(0) = -9");
        Quotes.term(6, sentence, "its gateway", slot0Restarts + "clock(0) = 9\n heartbeat(0) = 0\n clock(0) = 10");
        Quotes.term(6, sentence, "its place: it is before slot 1 as it was", slot0Restarts + """
            write(0, 3, 1) = 0
            write(1, 3, 2) = -5
            """);
        Quotes.term(6, sentence, "its last beat: 40 later it is not silent yet, 41 later it is", """
            begin(0) = 0
            tickAll(9)
            begin(1) = 1
            begin(1) = 2
            write(2, 6, 9) = 0
            commit(2) = 0
            read(0, 6) = C+1
            write(0, 3, 1) = 0
            tickAll(40)
            write(1, 3, 2) = -5
            state(0) = 1
            tickAll(41)
            write(1, 3, 2) = 0
            state(0) = 3
            """);
        Quotes.term(6, sentence, "read marks: a read before the restart has left its own", """
            begin(0) = 0
            begin(0) = 1
            begin(0) = 2
            begin(1) = 3
            begin(1) = 4
            begin(1) = 5
            begin(1) = 6
            write(6, 6, 9) = 0
            commit(6) = 0
            read(2, 3) = 0
            read(2, 6) = C+1
            write(3, 3, 1) = 0
            commit(3) = 0
            committed(1) = 4
            """);
    }

    private static void hurtAgain() {
        String sentence = "1 hurt: the mark is taken away then, and nothing else changes.";
        Quotes.term(7, sentence, "hurt twice before it is told: told once", """
            begin(0) = 0
            begin(1) = 1
            begin(2) = 2
            write(2, 3, 1) = 0
            write(0, 3, 2) = 0
            write(2, 7, 1) = 1
            write(2, 7, 1) = 0
            write(1, 7, 2) = 0
            heartbeat(2) = 0
            commit(2) = 1
            commit(2) = 0
            """);
    }

    private static void keysAndTheirOwners() {
        String sentence = "Key k lives on node k % 4, its OWNER.";
        for (int key = 0; key < 16; key++) {
            int owner = key % 4;
            int gateway = (key + 1) % 4;
            Quotes.term(6, sentence, "key " + key, "begin(" + gateway + ") = 0\n read(0, " + key + ") = 0\n"
                + "clock(" + owner + ") = 3\n clock(" + gateway + ") = 4\n"
                + "clock(" + (key + 2) % 4 + ") = 0\n clock(" + (key + 3) % 4 + ") = 0\n");
        }
    }

    private static void nothingIsMissed() {
        String sentence = "a transaction misses nothing that was committed before it began, on whatever node";
        Quotes.term(6, sentence, "the node of the one is 10 ahead, that of the other has heard of nothing", """
            tick(0, 10) = 0
            begin(0) = 0
            write(0, 0, 7) = 0
            commit(0) = 0
            begin(3) = 1
            stamp(1) = 1
            read(1, 0) = C+1
            read(1, 0) = 7
            stamp(1) = 10W+1
            """);
    }
}
