/** The boundary cases of promises 8, 14 and 15: commit, versions, committed. */
public final class CommitEdgeTest {
    private static final String SLOT_1_IS_HURT = """
        begin(0) = 0
        begin(3) = 1
        write(1, 5, 1) = 0
        write(0, 5, 2) = 0
        """;
    /** Slots 1 and 2 begin at stamps 1 and 2 on node 1, slots 3 to 7 at stamps 1 to 5 on node 2. */
    private static final String SLOT_0_AT_STAMP_1 = """
        begin(0) = 0
        begin(1) = 1
        begin(1) = 2
        """ + Quotes.each(3, 7, "begin(2) = #") + "stamp(0) = 1\n stamp(2) = 2\n stamp(7) = 5\n";
    /** Slot 2 lifts the read mark of key 8 to 2, and with it the write stamp of slot 0 to 3. */
    private static final String ITS_WRITE_STAMP_BECOMES_3 = "read(2, 8) = 0\n write(0, 8, 1) = 0\n stamp(0) = 1\n";

    public static void main(String[] args) {
        saysNoSuchSlot();
        saysTheState();
        saysHurt();
        stoppingCodesInTheirOrder();
        eventAtTheGateway();
        writeStampAboveTheReadStamp();
        eachKeyFromTheLeast();
        messages();
        nobodyInTheWay();
        pushesTheOneInTheWay();
        changed();
        notChanged();
        keysBehindAChangedOne();
        committedThen();
        intentsStay();
        versions();
        committed();
        asManyAs512CallsCommit();
        Checks.end();
    }

    private static void saysNoSuchSlot() {
        String sentence = "-1 slot not 0 .. 7";
        Quotes.term(8, sentence, "too small, too large", Quotes.outside(8, "commit(#) = -1"));
        Quotes.term(8, sentence, "too small, too large, where no slot is free",
            Quotes.each(0, 7, "begin(0) = #") + "remember()\n" + Quotes.outside(8, "commit(#) = -1") + "same()");
        Quotes.term(8, sentence, "the least and the greatest slot are none",
            Quotes.each(0, 7, "begin(0) = #") + "commit(0) = 0\n commit(7) = 0\n state(0) = 2\n state(7) = 2\n state(1) = 1");
    }

    private static void saysTheState() {
        Quotes.term(8, "-4 the slot is free", "in a new object and behind a clean", Quotes.each(0, 7, "commit(#) = -4")
            + "begin(0) = 0\n commit(0) = 0\n clean(0) = 0\n remember()\n commit(0) = -4\n same()");
        Quotes.term(8, "-6 aborted", "by its client", "begin(0) = 0\n abort(0) = 0\n remember()\n commit(0) = -6\n same()");
        Quotes.term(8, "-6 aborted", "by others, and its intents come to nothing", """
            begin(0) = 0
            write(0, 3, 7) = 0
            write(0, 4, 7) = 0
            tickAll(41)
            begin(1) = 1
            read(1, 3) = 0
            commit(0) = -6
            committed(0) = -1
            clean(0) = 0
            versions(3) = 0
            versions(4) = 0
            """);
        Quotes.term(8, "-8 committed", "the second time, and it counts once", """
            begin(0) = 0
            commit(0) = 0
            remember()
            commit(0) = -8
            same()
            committed(0) = 1
            committed(1) = -1
            """);
    }

    private static void saysHurt() {
        String sentence = "1 hurt: the mark is taken away then, and nothing else changes.";
        Quotes.term(8, sentence, "once", SLOT_1_IS_HURT + """
            remember()
            commit(1) = 1
            same()
            commit(1) = 0
            """);
        Quotes.term(8, sentence, "what it does behind the hurt is not lost by the code", SLOT_1_IS_HURT + """
            read(1, 9) = C+1
            write(1, 9, 4) = 0
            commit(1) = 0
            clean(1) = 0
            versions(9) = 1
            """);
    }

    private static void stoppingCodesInTheirOrder() {
        String sentence = "STOPPING CODES of read, write, commit, the first that holds, in this order: "
            + "-1 slot not 0 .. 7, or key (of read, write) not 0 .. 15; -4 the slot is free; -6 aborted; -8 committed; 1 hurt";
        Quotes.term(8, sentence, "-6 before 1", SLOT_1_IS_HURT + "abort(1) = 0\n commit(1) = -6\n commit(1) = -6");
        Quotes.term(8, sentence, "-4 before 1", SLOT_1_IS_HURT + "abort(1) = 0\n clean(1) = 0\n commit(1) = -4");
    }

    private static void eventAtTheGateway() {
        String sentence = "Else an event at the gateway g.";
        Quotes.promise(8, sentence, "one that has done nothing", "begin(3) = 0\n clock(3) = 1\n commit(0) = 0\n clock(3) = 2");
        Quotes.promise(8, sentence, "one that has read: no other clock", """
            begin(3) = 0
            read(0, 0) = 0
            clock(3) = 4
            clock(0) = 3
            commit(0) = 0
            clock(3) = 5
            clock(0) = 3
            """);
        Quotes.promise(8, sentence, "its stamps stay behind that clock", """
            begin(3) = 0
            tick(3, 5) = 0
            commit(0) = 0
            clock(3) = 5W+1
            stamp(0) = 1
            committed(0) = 1
            """);
    }

    private static void writeStampAboveTheReadStamp() {
        String sentence = "Is the write stamp above the read stamp, then for each key the transaction has read";
        Quotes.promise(8, sentence, "equal: no key is gone through, though one has changed above", """
            begin(0) = 0
            begin(1) = 1
            begin(1) = 2
            read(0, 3) = 0
            write(2, 3, 9) = 0
            commit(2) = 0
            clean(2) = 0
            clock(0) = 4
            clock(3) = 7
            commit(0) = 0
            clock(0) = 5
            clock(3) = 7
            stamp(0) = 1
            """);
        Quotes.promise(8, sentence, "above by 1: each is", """
            begin(0) = 0
            begin(1) = 1
            read(0, 3) = 0
            read(1, 6) = 0
            write(0, 6, 1) = 0
            clock(3) = 3
            clock(0) = 7
            commit(0) = 0
            clock(3) = 9
            clock(0) = 10
            stamp(0) = 2
            """);
        Quotes.promise(8, sentence, "above, and no key read: an event alone", """
            begin(0) = 0
            begin(1) = 1
            read(1, 6) = 0
            write(0, 6, 1) = 0
            clock(0) = 5
            clock(1) = 4
            clock(2) = 4
            clock(3) = 0
            commit(0) = 0
            clock(0) = 6
            clock(1) = 4
            clock(2) = 4
            clock(3) = 0
            stamp(0) = 2
            """);
    }

    private static void eachKeyFromTheLeast() {
        String sentence = "for each key the transaction has read, from the least";
        Quotes.promise(8, sentence, "the greatest and the least, read in this order", """
            begin(1) = 0
            begin(1) = 1
            read(0, 15) = 0
            read(0, 0) = 0
            read(1, 6) = 0
            write(0, 6, 1) = 0
            clock(0) = 7
            clock(1) = 14
            clock(2) = 13
            clock(3) = 4
            commit(0) = 0
            clock(0) = 16
            clock(3) = 18
            clock(1) = 19
            clock(2) = 13
            """);
        Quotes.promise(8, sentence, "a key read twice is gone through once", """
            begin(1) = 0
            begin(1) = 1
            read(0, 15) = 0
            read(0, 15) = 0
            read(1, 6) = 0
            write(0, 6, 1) = 0
            clock(1) = 14
            commit(0) = 0
            clock(3) = 16
            clock(1) = 17
            """);
        Quotes.promise(8, sentence, "all sixteen", "begin(1) = 0\n begin(1) = 1\n read(1, 6) = 0\n"
            + Quotes.each(0, 15, "read(0, #) = 0") + """
            write(0, 6, 1) = 0
            clock(1) = 56
            commit(0) = 0
            clock(1) = 89
            clock(3) = 88
            clock(2) = 86
            clock(0) = 82
            """);
    }

    private static void messages() {
        String sentence = "Both are done also where two nodes named below are the same one.";
        Quotes.term(8, sentence, "gateway and owner", """
            begin(2) = 0
            begin(2) = 1
            read(0, 2) = 0
            read(1, 6) = 0
            write(0, 6, 1) = 0
            clock(2) = 11
            commit(0) = 0
            clock(2) = 14
            """);
        Quotes.term(8, sentence, "gateway, owner and the other one's gateway", """
            begin(2) = 0
            begin(2) = 1
            read(0, 2) = 0
            read(1, 6) = 0
            write(0, 6, 1) = 0
            write(1, 2, 1) = 0
            clock(2) = 14
            commit(0) = 0
            clock(2) = 19
            """);
    }

    private static void nobodyInTheWay() {
        String sentence = "LOOKING UP key k for transaction T does nothing if k has no intent of another transaction than T.";
        Quotes.term(8, sentence, "its own intent on a key it has read, also if it has been silent for more than 40", """
            begin(0) = 0
            read(0, 3) = 0
            write(0, 3, 8) = 0
            tickAll(41)
            commit(0) = 0
            stamp(0) = 2
            clean(0) = 0
            versions(3) = 1
            """);
    }

    private static void pushesTheOneInTheWay() {
        String sentence = "stands U in the way and U's write stamp is not above this write stamp, "
            + "U's write stamp becomes this write stamp plus 1";
        int[] due = {4, 4, 4, 5};
        String[] edges = {"below", "equal", "above by 1", "above by 2"};
        for (int i = 0; i < 4; i++) {
            int other = 4 + i;
            Quotes.promise(8, sentence, edges[i], SLOT_0_AT_STAMP_1 + "read(0, 7) = 0\n write(" + other + ", 7, 9) = 0\n"
                + ITS_WRITE_STAMP_BECOMES_3 + "commit(0) = 0\n committed(0) = 3\n"
                + "commit(" + other + ") = 0\n committed(1) = " + due[i]);
        }
        Quotes.promise(8, sentence, "its read stamp stays, and so it has its own reads to move", SLOT_0_AT_STAMP_1
            + "read(0, 7) = 0\n write(4, 7, 9) = 0\n" + ITS_WRITE_STAMP_BECOMES_3 + "commit(0) = 0\n stamp(4) = 2");
    }

    private static void changed() {
        String sentence = "the key is CHANGED if it has a version with a stamp above the read stamp and not above the write stamp";
        Quotes.promise(8, sentence, "equal to the read stamp: not", SLOT_0_AT_STAMP_1 + """
            write(3, 7, 9) = 0
            commit(3) = 0
            committed(0) = 1
            read(0, 7) = 9
            """ + ITS_WRITE_STAMP_BECOMES_3 + "commit(0) = 0\n committed(1) = 3");
        String[] edges = {"above the read stamp by 1", "equal to the write stamp"};
        for (int i = 0; i < 2; i++) {
            int other = 4 + i;
            Quotes.promise(8, sentence, edges[i], SLOT_0_AT_STAMP_1 + "read(0, 7) = 0\n write(" + other + ", 7, 9) = 0\n"
                + "commit(" + other + ") = 0\n committed(0) = " + (2 + i) + "\n" + ITS_WRITE_STAMP_BECOMES_3
                + "commit(0) = 1\n stamp(0) = 3\n state(0) = 1\n committed(1) = -1");
        }
        Quotes.promise(8, sentence, "above the write stamp by 1: not", SLOT_0_AT_STAMP_1 + """
            read(0, 7) = 0
            write(6, 7, 9) = 0
            commit(6) = 0
            committed(0) = 4
            """ + ITS_WRITE_STAMP_BECOMES_3 + "commit(0) = 0\n committed(1) = 3");
        Quotes.promise(8, sentence, "one of several is enough, though the greatest is above the write stamp",
            SLOT_0_AT_STAMP_1 + """
            read(0, 7) = 0
            write(4, 7, 9) = 0
            commit(4) = 0
            write(6, 7, 9) = 0
            commit(6) = 0
            committed(0) = 2
            committed(1) = 4
            """ + ITS_WRITE_STAMP_BECOMES_3 + "commit(0) = 1");
        Quotes.promise(8, sentence, "an intent that came to nothing is no version", SLOT_0_AT_STAMP_1 + """
            read(0, 7) = 0
            write(4, 7, 9) = 0
            abort(4) = 0
            """ + ITS_WRITE_STAMP_BECOMES_3 + "commit(0) = 0\n versions(7) = 0");
        Quotes.promise(8, sentence, "a version of a key that was not read is none", SLOT_0_AT_STAMP_1 + """
            read(0, 6) = 0
            write(4, 7, 9) = 0
            commit(4) = 0
            clean(4) = 0
            """ + ITS_WRITE_STAMP_BECOMES_3 + "commit(0) = 0");
    }

    private static void notChanged() {
        String sentence = "is it not changed, its read mark becomes the greater of itself and the write stamp";
        Quotes.promise(8, sentence, "the write stamp is greater", SLOT_0_AT_STAMP_1 + "read(0, 7) = 0\n"
            + ITS_WRITE_STAMP_BECOMES_3 + """
            commit(0) = 0
            write(1, 7, 9) = 0
            commit(1) = 0
            committed(1) = 4
            """);
        Quotes.promise(8, sentence, "the read mark is greater", SLOT_0_AT_STAMP_1 + "read(0, 7) = 0\n read(7, 7) = 0\n"
            + ITS_WRITE_STAMP_BECOMES_3 + """
            commit(0) = 0
            write(1, 7, 9) = 0
            commit(1) = 0
            committed(1) = 6
            """);
        Quotes.promise(8, sentence, "changed: it stays", SLOT_0_AT_STAMP_1 + """
            read(0, 7) = 0
            write(4, 7, 9) = 0
            commit(4) = 0
            read(7, 4) = 0
            write(0, 4, 1) = 0
            commit(0) = 1
            stamp(0) = 6
            write(1, 7, 9) = 0
            commit(1) = 0
            committed(1) = 3
            """);
        Quotes.promise(8, sentence, "a key that was not read: it stays", SLOT_0_AT_STAMP_1 + "read(0, 7) = 0\n"
            + ITS_WRITE_STAMP_BECOMES_3 + """
            commit(0) = 0
            write(1, 6, 9) = 0
            write(1, 3, 9) = 0
            write(1, 11, 9) = 0
            commit(1) = 0
            committed(1) = 1
            """);
    }

    private static void keysBehindAChangedOne() {
        String sentence = "is it changed, the transaction restarts at stamp 0, 1 is answered, "
            + "and the keys behind it are not gone through.";
        String keys5And6And7Read6Changed = SLOT_0_AT_STAMP_1 + """
            read(0, 5) = 0
            read(0, 6) = 0
            read(0, 7) = 0
            write(4, 6, 9) = 0
            commit(4) = 0
            """ + ITS_WRITE_STAMP_BECOMES_3;
        Quotes.promise(8, sentence, "the ones before it are gone through, itself too, the ones behind it not",
            keys5And6And7Read6Changed + """
            clock(0) = 14
            clock(1) = 12
            clock(2) = 10
            clock(3) = 9
            commit(0) = 1
            clock(1) = 16
            clock(2) = 20
            clock(0) = 21
            clock(3) = 9
            """);
        Quotes.promise(8, sentence, "read marks of those before it are lifted, of those behind it not",
            keys5And6And7Read6Changed + """
            commit(0) = 1
            write(1, 7, 1) = 0
            commit(1) = 0
            committed(1) = 2
            write(3, 5, 1) = 0
            commit(3) = 0
            committed(2) = 4
            """);
        Quotes.promise(8, sentence, "it restarts: no intents, no reads, its read stamp is its write stamp, not hurt",
            keys5And6And7Read6Changed + """
            commit(0) = 1
            state(0) = 1
            stamp(0) = 3
            committed(1) = -1
            clock(1) = 16
            clock(2) = 20
            commit(0) = 0
            clock(1) = 16
            clock(2) = 20
            committed(1) = 3
            clean(0) = 0
            versions(8) = 0
            """);
        Quotes.promise(8, sentence, "the least of all keys and the greatest", SLOT_0_AT_STAMP_1 + """
            read(0, 15) = 0
            read(0, 0) = 0
            write(4, 0, 9) = 0
            commit(4) = 0
            clean(4) = 0
            clock(3) = 3
            """ + ITS_WRITE_STAMP_BECOMES_3 + """
            commit(0) = 1
            clock(3) = 3
            """);
    }

    private static void committedThen() {
        String sentence = "Was none changed (or the write stamp not above the read stamp): "
            + "the read stamp becomes the write stamp, the transaction is committed, 0.";
        Quotes.promise(8, sentence, "neither read nor written anything", """
            begin(3) = 0
            commit(0) = 0
            state(0) = 2
            stamp(0) = 1
            committed(0) = 1
            """);
        Quotes.promise(8, sentence, "a write stamp that is not above", """
            begin(3) = 0
            read(0, 2) = 0
            write(0, 4, 7) = 0
            commit(0) = 0
            state(0) = 2
            stamp(0) = 1
            """);
        Quotes.promise(8, sentence, "a write stamp above, none changed",
            SLOT_0_AT_STAMP_1 + "read(0, 7) = 0\n" + ITS_WRITE_STAMP_BECOMES_3 + "commit(0) = 0\n state(0) = 2\n stamp(0) = 3");
        Quotes.promise(8, sentence, "a write stamp above, none read",
            SLOT_0_AT_STAMP_1 + ITS_WRITE_STAMP_BECOMES_3 + "commit(0) = 0\n state(0) = 2\n stamp(0) = 3");
        Quotes.promise(8, sentence, "silent for more than 40, but nobody has looked", """
            begin(0) = 0
            write(0, 3, 7) = 0
            tickAll(41)
            commit(0) = 0
            state(0) = 2
            """);
    }

    private static void intentsStay() {
        String sentence = "Its intents stay until they are looked up or the slot is cleaned.";
        Quotes.promise(8, sentence, "stay", """
            begin(1) = 0
            write(0, 0, 7) = 0
            write(0, 15, 8) = 0
            commit(0) = 0
            versions(0) = 0
            versions(15) = 0
            """);
        Quotes.promise(8, sentence, "looked up by a read, a write, a commit", """
            begin(1) = 0
            read(0, 4) = 0
            begin(1) = 1
            write(1, 4, 7) = 0
            write(1, 5, 8) = 0
            write(1, 6, 9) = 0
            commit(1) = 0
            begin(1) = 2
            read(2, 6) = 9
            versions(4) = 0
            versions(5) = 0
            versions(6) = 1
            write(0, 5, 1) = 0
            versions(4) = 0
            versions(5) = 1
            commit(0) = 1
            versions(4) = 1
            """);
        Quotes.promise(8, sentence, "cleaned", """
            begin(1) = 0
            write(0, 0, 7) = 0
            write(0, 15, 8) = 0
            commit(0) = 0
            clean(0) = 0
            versions(0) = 1
            versions(15) = 1
            """);
    }

    private static void versions() {
        Quotes.promise(14, "-1 key not 0 .. 15", "too small, too large", Quotes.outside(16, "versions(#) = -1"));
        Quotes.promise(14, "-1 key not 0 .. 15", "too small, too large, where every key has a version", "begin(0) = 0\n"
            + Quotes.each(0, 15, "write(0, #, 1) = 0") + "commit(0) = 0\n clean(0) = 0\n"
            + Quotes.each(0, 15, "versions(#) = 1") + Quotes.outside(16, "versions(#) = -1"));
        Quotes.promise(14, "-1 key not 0 .. 15", "the least and the greatest key are none", """
            begin(0) = 0
            write(0, 0, 1) = 0
            commit(0) = 0
            clean(0) = 0
            begin(0) = 0
            write(0, 0, 1) = 0
            write(0, 15, 1) = 0
            commit(0) = 0
            clean(0) = 0
            versions(0) = 2
            versions(15) = 1
            versions(1) = 0
            versions(14) = 0
            """);
        String sentence = "How many versions the key has (intents are none)";
        Quotes.promise(14, sentence, "from none to all sixteen, and no more", Quotes.each(0, 15, """
            versions(4) = #
            begin(0) = 0
            write(0, 4, 1) = 0
            versions(4) = #
            commit(0) = 0
            versions(4) = #
            clean(0) = 0
            """) + "versions(4) = 16\n begin(0) = 0\n write(0, 4, 1) = -7\n commit(0) = 0\n clean(0) = 0\n versions(4) = 16");
        Quotes.promise(14, sentence, "an intent of a pending, a committed, an aborted one", """
            begin(0) = 0
            write(0, 4, 1) = 0
            write(0, 5, 1) = 0
            versions(4) = 0
            commit(0) = 0
            versions(4) = 0
            begin(0) = 1
            write(1, 6, 1) = 0
            abort(1) = 0
            versions(6) = 0
            clean(1) = 0
            versions(6) = 0
            clean(0) = 0
            versions(4) = 1
            versions(5) = 1
            """);
    }

    private static void committed() {
        Quotes.promise(15, "n is below 0", "by 1, and as far as can be", """
            begin(0) = 0
            commit(0) = 0
            committed(-1) = -1
            committed(-2) = -1
            committed(-256) = -1
            committed(-65536) = -1
            committed(MIN) = -1
            committed(MIN+1) = -1
            committed(0) = 1
            """);
        Quotes.promise(15, "-1 if there were not so many", "none at all", """
            committed(0) = -1
            committed(1) = -1
            committed(255) = -1
            committed(256) = -1
            committed(512) = -1
            committed(65536) = -1
            committed(MAX) = -1
            """);
        Quotes.promise(15, "-1 if there were not so many", "one and two", """
            begin(0) = 0
            commit(0) = 0
            committed(0) = 1
            committed(1) = -1
            begin(0) = 1
            commit(1) = 0
            committed(1) = 3
            committed(2) = -1
            committed(MAX) = -1
            """);
        String sentence = "The write stamp of the transaction that was committed n-th (0 the first one)";
        Quotes.promise(15, sentence, "in the order of the commits, not of begins, slots or stamps", """
            tick(2, 5) = 0
            begin(0) = 0
            begin(2) = 1
            begin(1) = 2
            begin(1) = 3
            commit(3) = 0
            commit(1) = 0
            commit(0) = 0
            committed(0) = 2
            committed(1) = 5W+1
            committed(2) = 1
            committed(3) = -1
            """);
        Quotes.promise(15, sentence, "also when its slot has been cleaned and is used again", """
            tick(2, 5) = 0
            begin(2) = 0
            commit(0) = 0
            clean(0) = 0
            committed(0) = 5W+1
            begin(1) = 0
            committed(0) = 5W+1
            committed(1) = -1
            commit(0) = 0
            committed(0) = 5W+1
            committed(1) = 1
            """);
        Quotes.promise(15, sentence, "a commit that was refused or answered 1 does not count", SLOT_1_IS_HURT + """
            commit(1) = 1
            commit(2) = -4
            commit(8) = -1
            abort(1) = 0
            commit(1) = -6
            committed(0) = -1
            commit(0) = 0
            commit(0) = -8
            committed(0) = 1
            committed(1) = -1
            """);
    }

    /** Eight need no clean, each other needs three calls: 8 * 2 + 165 * 3 + 1 = 512. */
    private static void asManyAs512CallsCommit() {
        Quotes.promise(15, "The write stamp of the transaction that was committed n-th (0 the first one)",
            "the last of as many as 512 calls can commit",
            Quotes.each(0, 7, "begin(0) = #\n commit(#) = 0")
            + Quotes.times(165, "clean(5) = 0\n begin(0) = 5\n commit(5) = 0") + "committed(172) = 345");
        Quotes.promise(15, "-1 if there were not so many", "behind as many as 512 calls can commit",
            Quotes.each(0, 7, "begin(0) = #\n commit(#) = 0")
            + Quotes.times(165, "clean(0) = 0\n begin(0) = 0\n commit(0) = 0") + "committed(173) = -1");
    }
}
