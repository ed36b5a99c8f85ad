/** The boundary cases of promise 7: write. */
public final class WriteEdgeTest {
    private static final String SLOT_1_IS_HURT = """
        begin(0) = 0
        begin(3) = 1
        write(1, 5, 1) = 0
        write(0, 5, 2) = 0
        """;

    public static void main(String[] args) {
        saysNoSuchSlotOrKey();
        saysTheState();
        saysHurt();
        stoppingCodesInTheirOrder();
        messages();
        messagesOfEveryAnswer();
        values();
        ownIntent();
        newIntent();
        onlyOneIntent();
        anEarlierOneInTheWay();
        aLaterOneInTheWay();
        nobodyInTheWay();
        sixteenVersions();
        sixteenthVersionByLookingUp();
        noneIsEverDropped();
        writeStampAndReadMark();
        writeStampAndVersions();
        Checks.end();
    }

    private static String versionsOfKey7(int count, int slot) {
        return Quotes.times(count, """
            begin(1) = #
            write(#, 7, 100) = 0
            commit(#) = 0
            clean(#) = 0
            """.replace("#", Integer.toString(slot)));
    }

    private static void saysNoSuchSlotOrKey() {
        String sentence = "-1 slot not 0 .. 7, or key (of read, write) not 0 .. 15";
        Quotes.term(7, sentence, "slot too small, too large", Quotes.outside(8, "write(#, 0, 1) = -1"));
        Quotes.term(7, sentence, "key too small, too large",
            "begin(0) = 0\n remember()\n" + Quotes.outside(16, "write(0, #, 1) = -1") + "same()");
        Quotes.term(7, sentence, "both at once", """
            write(-1, -1, 1) = -1
            write(8, 16, 1) = -1
            write(MIN, MAX, 1) = -1
            write(MAX, MIN, 1) = -1
            """);
        Quotes.term(7, sentence, "the least and the greatest slot and key are none", Quotes.each(0, 7, "begin(0) = #") + """
            write(0, 0, 1) = 0
            write(0, 15, 2) = 0
            write(7, 1, 3) = 0
            write(7, 14, 4) = 0
            read(0, 0) = 1
            read(0, 15) = 2
            read(7, 1) = 3
            read(7, 14) = 4
            """);
    }

    private static void saysTheState() {
        Quotes.term(7, "-4 the slot is free", "in a new object and behind a clean", Quotes.each(0, 7, "write(#, 3, 1) = -4")
            + "clock(3) = 0\n begin(0) = 0\n abort(0) = 0\n clean(0) = 0\n remember()\n write(0, 3, 1) = -4\n same()");
        Quotes.term(7, "-6 aborted", "no intent comes of it", """
            begin(0) = 0
            abort(0) = 0
            remember()
            write(0, 3, 1) = -6
            same()
            clean(0) = 0
            clock(3) = 0
            """);
        Quotes.term(7, "-8 committed", "no intent comes of it", """
            begin(0) = 0
            commit(0) = 0
            remember()
            write(0, 3, 1) = -8
            same()
            clean(0) = 0
            versions(3) = 0
            clock(3) = 0
            """);
        Quotes.term(7, "-8 committed", "an intent keeps the value that was committed", """
            begin(0) = 0
            write(0, 3, 1) = 0
            commit(0) = 0
            write(0, 3, 2) = -8
            begin(0) = 1
            read(1, 3) = 1
            """);
    }

    private static void saysHurt() {
        String sentence = "1 hurt: the mark is taken away then, and nothing else changes.";
        Quotes.term(7, sentence, "once, and no intent comes of it", SLOT_1_IS_HURT + """
            remember()
            write(1, 6, 7) = 1
            same()
            read(1, 6) = 0
            write(1, 6, 7) = 0
            read(1, 6) = 7
            """);
        Quotes.term(7, sentence, "its write stamp stays", """
            begin(0) = 0
            begin(3) = 1
            write(1, 5, 1) = 0
            write(0, 5, 2) = 0
            begin(0) = 2
            read(2, 6) = 0
            write(1, 6, 7) = 1
            commit(1) = 0
            committed(0) = 1
            """);
    }

    private static void stoppingCodesInTheirOrder() {
        String sentence = "STOPPING CODES of read, write, commit, the first that holds, in this order: "
            + "-1 slot not 0 .. 7, or key (of read, write) not 0 .. 15; -4 the slot is free; -6 aborted; -8 committed; 1 hurt";
        Quotes.term(7, sentence, "-1 before -4", "write(0, 16, 1) = -1\n write(0, -1, 1) = -1\n write(0, 15, 1) = -4");
        Quotes.term(7, sentence, "-1 before -6", "begin(0) = 0\n abort(0) = 0\n write(0, 16, 1) = -1\n write(0, 15, 1) = -6");
        Quotes.term(7, sentence, "-1 before -8", "begin(0) = 0\n commit(0) = 0\n write(0, -1, 1) = -1\n write(0, 0, 1) = -8");
        Quotes.term(7, sentence, "-1 before 1, and the mark stays", SLOT_1_IS_HURT + "write(1, 16, 1) = -1\n write(1, 15, 1) = 1");
        Quotes.term(7, sentence, "-6 before 1", SLOT_1_IS_HURT + "abort(1) = 0\n write(1, 15, 1) = -6\n write(1, 15, 1) = -6");
        Quotes.term(7, sentence, "-4 before 1", SLOT_1_IS_HURT + "abort(1) = 0\n clean(1) = 0\n write(1, 15, 1) = -4");
        Quotes.term(7, sentence, "1 before -5", SLOT_1_IS_HURT + "write(1, 5, 1) = 1\n write(1, 5, 1) = -5");
    }

    private static void messages() {
        String sentence = "Both are done also where two nodes named below are the same one.";
        Quotes.term(7, sentence, "gateway and owner", """
            tick(2, 1) = 0
            begin(2) = 0
            clock(2) = 1W+1
            write(0, 2, 5) = 0
            clock(2) = 1W+4
            write(0, 2, 6) = 0
            clock(2) = 1W+7
            """);
        Quotes.term(7, sentence, "gateway, owner and the other one's gateway", """
            begin(2) = 0
            begin(2) = 1
            write(0, 2, 5) = 0
            clock(2) = 5
            write(1, 2, 6) = -5
            clock(2) = 10
            """);
    }

    private static void messagesOfEveryAnswer() {
        String sentence = "event at g; o takes in g's clock; what follows; g takes in o's clock.";
        Quotes.promise(7, sentence, "the owner is ahead", """
            tick(3, 2) = 0
            begin(0) = 0
            write(0, 3, 1) = 0
            clock(3) = 2W+1
            clock(0) = 2W+2
            """);
        Quotes.promise(7, sentence, "the gateway is ahead", """
            tick(0, 2) = 0
            begin(0) = 0
            write(0, 3, 1) = 0
            clock(3) = 2W+3
            clock(0) = 2W+4
            """);
        Quotes.promise(7, sentence, "neither is ahead of its reading", """
            begin(0) = 0
            tick(0, 2) = 0
            tick(3, 3) = 0
            write(0, 3, 1) = 0
            clock(3) = 3W+1
            clock(0) = 3W+2
            """);
        Quotes.promise(7, sentence, "an own intent is written again", """
            begin(0) = 0
            write(0, 3, 5) = 0
            clock(0) = 4
            write(0, 3, 6) = 0
            clock(3) = 6
            clock(0) = 7
            """);
        Quotes.promise(7, sentence, "-5", """
            begin(0) = 0
            begin(1) = 1
            write(0, 3, 1) = 0
            clock(3) = 3
            write(1, 3, 2) = -5
            clock(0) = 5
            clock(3) = 6
            clock(1) = 7
            """);
        Quotes.promise(7, sentence, "-7", versionsOfKey7(16, 0) + """
            begin(1) = 0
            clock(1) = 81
            clock(3) = 81
            write(0, 7, 1) = -7
            clock(3) = 83
            clock(1) = 84
            """);
    }

    private static void values() {
        String sentence = "values any int";
        for (String value : new String[] {"0", "-1", "MIN", "MAX", "MIN+1", "MAX-1"}) {
            Quotes.term(7, sentence, value, "begin(0) = 0\n write(0, 3, 1) = 0\n write(0, 3, " + value + ") = 0\n read(0, 3) = "
                + value + "\n commit(0) = 0\n begin(3) = 1\n read(1, 3) = " + value);
        }
    }

    private static void ownIntent() {
        String sentence = "Has the key an intent of this transaction: its value becomes this one, 0.";
        Quotes.promise(7, sentence, "again and again, and it is one version in the end", "begin(0) = 0\n"
            + Quotes.each(1, 40, "write(0, 3, #) = 0") + "read(0, 3) = 40\n commit(0) = 0\n clean(0) = 0\n versions(3) = 1");
        Quotes.promise(7, sentence, "the write stamp stays, though the read mark has gone up", """
            begin(0) = 0
            write(0, 3, 1) = 0
            begin(1) = 1
            begin(1) = 2
            begin(1) = 3
            read(1, 3) = 0
            write(0, 3, 2) = 0
            commit(0) = 0
            committed(0) = 2
            """);
        Quotes.promise(7, sentence, "the least and the greatest key", """
            begin(0) = 0
            write(0, 0, 1) = 0
            write(0, 15, 2) = 0
            write(0, 0, 3) = 0
            write(0, 15, 4) = 0
            read(0, 0) = 3
            read(0, 15) = 4
            """);
        Quotes.promise(7, sentence, "where the key has 15 versions", versionsOfKey7(15, 0) + """
            begin(1) = 0
            write(0, 7, 1) = 0
            write(0, 7, 2) = 0
            commit(0) = 0
            clean(0) = 0
            versions(7) = 16
            begin(1) = 0
            read(0, 7) = 2
            """);
        Quotes.promise(7, sentence, "behind a restart the intent is no more", """
            begin(0) = 0
            begin(1) = 1
            begin(1) = 2
            write(2, 2, 8) = 0
            commit(2) = 0
            write(0, 3, 1) = 0
            read(0, 2) = C+1
            read(1, 3) = 0
            stamp(0) = 2
            begin(1) = 3
            stamp(3) = 11
            read(3, 3) = 0
            write(0, 3, 5) = 0
            commit(0) = 0
            committed(1) = 12
            """);
    }

    private static void newIntent() {
        String sentence = "the key has an intent of this transaction with the value; 0.";
        Quotes.promise(7, sentence, "every key, the least and the greatest too", "begin(0) = 0\n"
            + Quotes.each(0, 15, "write(0, #, 5#) = 0") + Quotes.each(0, 15, "read(0, #) = 5#"));
        Quotes.promise(7, sentence, "in place of one that came to nothing", """
            begin(0) = 0
            begin(1) = 1
            write(0, 15, 1) = 0
            abort(0) = 0
            write(1, 15, 2) = 0
            read(1, 15) = 2
            clean(0) = 0
            read(1, 15) = 2
            """);
        Quotes.promise(7, sentence, "in place of one that has become a version", """
            begin(0) = 0
            begin(1) = 1
            write(0, 15, 1) = 0
            commit(0) = 0
            write(1, 15, 2) = 0
            versions(15) = 1
            read(1, 15) = 2
            clean(0) = 0
            versions(15) = 1
            read(1, 15) = 2
            """);
        Quotes.promise(7, sentence, "the key does not count as read", """
            begin(0) = 0
            begin(1) = 1
            read(1, 6) = 0
            write(0, 3, 1) = 0
            write(0, 6, 1) = 0
            clock(3) = 3
            commit(0) = 0
            stamp(0) = 2
            clock(3) = 3
            """);
    }

    private static void onlyOneIntent() {
        String sentence = "a key has at most one";
        Quotes.term(7, sentence, "that of the one that began before", """
            begin(0) = 0
            begin(1) = 1
            write(0, 3, 1) = 0
            write(1, 3, 2) = -5
            read(1, 3) = 0
            read(0, 3) = 1
            """);
        Quotes.term(7, sentence, "the one that began later has lost its own", """
            begin(0) = 0
            begin(1) = 1
            write(1, 3, 2) = 0
            write(0, 3, 1) = 0
            read(0, 3) = 1
            read(1, 3) = C+1
            read(1, 3) = 0
            """);
    }

    private static void anEarlierOneInTheWay() {
        String sentence = "Stands U in the way, and U began before this transaction: -5 (try again later).";
        Quotes.promise(7, sentence, "by one begin", """
            begin(0) = 0
            begin(0) = 1
            write(0, 3, 1) = 0
            write(1, 3, 2) = -5
            """);
        Quotes.promise(7, sentence, "in a greater slot, with a greater stamp", """
            begin(0) = 0
            tick(1, 5) = 0
            begin(1) = 1
            abort(0) = 0
            clean(0) = 0
            begin(0) = 0
            write(1, 3, 1) = 0
            write(0, 3, 2) = -5
            """);
        Quotes.promise(7, sentence, "neither of the two is changed", """
            begin(0) = 0
            begin(1) = 1
            begin(2) = 2
            begin(2) = 3
            read(3, 3) = 0
            write(0, 3, 1) = 0
            write(1, 3, 2) = -5
            stamp(0) = 1
            stamp(1) = 1
            read(0, 3) = 1
            commit(1) = 0
            committed(0) = 1
            commit(0) = 0
            committed(1) = 3
            """);
        Quotes.promise(7, sentence, "a lesser write stamp in the way stays", """
            begin(0) = 0
            begin(1) = 1
            begin(1) = 2
            begin(1) = 3
            write(0, 3, 1) = 0
            write(3, 3, 2) = -5
            commit(0) = 0
            committed(0) = 1
            """);
        Quotes.promise(7, sentence, "until it has ended", """
            begin(0) = 0
            begin(1) = 1
            write(0, 3, 1) = 0
            write(1, 3, 2) = -5
            write(1, 3, 2) = -5
            abort(0) = 0
            write(1, 3, 2) = 0
            """);
        Quotes.promise(7, sentence, "or has been silent for 41", """
            begin(0) = 0
            begin(1) = 1
            write(0, 3, 1) = 0
            tickAll(40)
            write(1, 3, 2) = -5
            state(0) = 1
            tickAll(41)
            write(1, 3, 2) = 0
            state(0) = 3
            """);
    }

    private static void aLaterOneInTheWay() {
        String sentence = "Stands U in the way, and U began later: U restarts at stamp 0 and is hurt.";
        Quotes.promise(7, sentence, "by one begin", """
            begin(0) = 0
            begin(0) = 1
            write(1, 3, 1) = 0
            write(0, 3, 2) = 0
            read(0, 3) = 2
            commit(1) = 1
            commit(1) = 0
            """);
        Quotes.promise(7, sentence, "in a lesser slot, with a lesser stamp", """
            begin(0) = 0
            tick(1, 5) = 0
            begin(1) = 1
            abort(0) = 0
            clean(0) = 0
            begin(0) = 0
            write(0, 3, 1) = 0
            write(1, 3, 2) = 0
            commit(0) = 1
            """);
        Quotes.promise(7, sentence, "at stamp 0: its write stamp stays where it is the stamp of its begin", """
            begin(0) = 0
            begin(1) = 1
            write(1, 3, 1) = 0
            write(0, 3, 2) = 0
            stamp(1) = 1
            state(1) = 1
            """);
        Quotes.promise(7, sentence, "at stamp 0: not at the stamp of the writer, where that is above", """
            tick(0, 5) = 0
            begin(0) = 0
            begin(1) = 1
            write(1, 3, 1) = 0
            write(0, 3, 2) = 0
            stamp(0) = 5W+1
            stamp(1) = 1
            commit(1) = 1
            commit(1) = 0
            committed(0) = 1
            """);
        Quotes.promise(7, sentence, "at stamp 0: its read stamp becomes the write stamp, where that is above", """
            begin(0) = 0
            begin(1) = 1
            begin(2) = 2
            begin(2) = 3
            read(3, 3) = 0
            write(1, 3, 1) = 0
            stamp(1) = 1
            write(0, 3, 2) = 0
            stamp(1) = 3
            """);
        Quotes.promise(7, sentence, "all its intents are gone, on the least and the greatest key too", """
            begin(0) = 0
            begin(1) = 1
            write(1, 0, 1) = 0
            write(1, 3, 1) = 0
            write(1, 15, 1) = 0
            write(0, 3, 2) = 0
            commit(1) = 1
            read(1, 0) = 0
            read(1, 15) = 0
            commit(1) = 0
            clean(1) = 0
            versions(0) = 0
            versions(3) = 0
            versions(15) = 0
            """);
        Quotes.promise(7, sentence, "the writer is neither restarted nor hurt", """
            begin(0) = 0
            begin(1) = 1
            write(0, 6, 4) = 0
            write(1, 3, 1) = 0
            write(0, 3, 2) = 0
            read(0, 6) = 4
            read(0, 3) = 2
            commit(0) = 0
            """);
        Quotes.promise(7, sentence, "one that is silent is aborted, and not hurt", """
            begin(0) = 0
            begin(1) = 1
            write(1, 3, 1) = 0
            tickAll(41)
            write(0, 3, 2) = 0
            state(1) = 3
            commit(1) = -6
            """);
    }

    private static void nobodyInTheWay() {
        String sentence = "LOOKING UP key k for transaction T does nothing if k has no intent of another transaction than T.";
        Quotes.term(7, sentence, "no intent", """
            begin(0) = 0
            begin(1) = 1
            write(1, 6, 1) = 0
            clock(1) = 4
            write(0, 2, 1) = 0
            clock(1) = 4
            """);
        Quotes.term(7, sentence, "its own intent, also if it has been silent for more than 40", """
            begin(0) = 0
            write(0, 3, 8) = 0
            tickAll(41)
            write(0, 3, 9) = 0
            state(0) = 1
            """);
    }

    private static void sixteenVersions() {
        String sentence = "Then, has the key 16 versions: -7.";
        Quotes.promise(7, sentence, "15 are not yet 16", versionsOfKey7(15, 0) + """
            versions(7) = 15
            begin(1) = 0
            write(0, 7, 1) = 0
            """);
        String full = versionsOfKey7(16, 0);
        Quotes.promise(7, sentence, "16 are", full + """
            versions(7) = 16
            begin(1) = 0
            write(0, 7, 1) = -7
            write(0, 7, 1) = -7
            versions(7) = 16
            """);
        Quotes.promise(7, sentence, "no intent comes of it", full + """
            begin(1) = 0
            write(0, 7, 1) = -7
            read(0, 7) = 100
            commit(0) = 0
            clean(0) = 0
            versions(7) = 16
            """);
        Quotes.promise(7, sentence, "the write stamp stays", full + """
            begin(1) = 0
            stamp(0) = 81
            begin(1) = 1
            read(1, 7) = 100
            write(0, 7, 1) = -7
            commit(0) = 0
            committed(16) = 81
            """);
        Quotes.promise(7, sentence, "the write stamp stays, where all versions are above it", "begin(2) = 0\n"
            + versionsOfKey7(16, 1) + """
            versions(7) = 16
            write(0, 7, 1) = -7
            commit(0) = 0
            committed(16) = 1
            """);
        Quotes.promise(7, sentence, "of this key: others can be written", full + """
            begin(1) = 0
            write(0, 7, 1) = -7
            write(0, 6, 1) = 0
            write(0, 8, 1) = 0
            write(0, 3, 1) = 0
            write(0, 15, 1) = 0
            """);
        Quotes.promise(7, sentence, "intents that came to nothing are no versions", """
            begin(0) = 0
            """ + Quotes.times(20, """
            begin(1) = 1
            write(1, 7, 100) = 0
            abort(1) = 0
            clean(1) = 0
            """) + """
            versions(7) = 0
            write(0, 7, 1) = 0
            """);
    }

    private static void sixteenthVersionByLookingUp() {
        String sentence = "Then, has the key 16 versions: -7.";
        String fifteenAndAnIntent = versionsOfKey7(15, 0) + """
            begin(1) = 0
            begin(1) = 1
            write(1, 7, 200) = 0
            versions(7) = 15
            """;
        Quotes.promise(7, sentence, "the 16th is one that the looking up has made", fifteenAndAnIntent + """
            commit(1) = 0
            write(0, 7, 1) = -7
            versions(7) = 16
            clean(1) = 0
            versions(7) = 16
            """);
        Quotes.promise(7, sentence, "the looking up has taken an intent away", fifteenAndAnIntent + """
            abort(1) = 0
            write(0, 7, 1) = 0
            commit(0) = 0
            clean(0) = 0
            versions(7) = 16
            """);
        Quotes.promise(7, sentence, "a pending one in the way is no version", fifteenAndAnIntent + """
            write(0, 7, 1) = 0
            commit(1) = 1
            commit(0) = 0
            clean(0) = 0
            versions(7) = 16
            """);
    }

    /** Every version is made 20 units after the one before, so that an old reader's limit is below the next. */
    private static void noneIsEverDropped() {
        StringBuilder script = new StringBuilder();
        int readers = 0;
        for (int i = 0; i < 16; i++) {
            int slot = readers;
            script.append("begin(1) = " + slot + "\n write(" + slot + ", 7, " + (100 + i) + ") = 0\n");
            script.append("commit(" + slot + ") = 0\n clean(" + slot + ") = 0\n");
            if (i == 0 || i == 1 || i == 7 || i == 8 || i == 14 || i == 15) {
                script.append("begin(1) = " + readers + "\n");
                readers++;
            }
            script.append(Quotes.each(0, 3, "tick(#, " + (20 * i + 10) + ") = 0"));
            script.append(Quotes.each(0, 3, "tick(#, " + (20 * i + 20) + ") = 0"));
        }
        script.append("versions(7) = 16\n begin(1) = 6\n write(6, 7, 1) = -7\n");
        script.append("read(0, 7) = 100\n read(1, 7) = 101\n read(2, 7) = 107\n read(3, 7) = 108\n");
        script.append("read(4, 7) = 114\n read(5, 7) = 115\n");
        Quotes.term(7, "a key has at most 16, and none is ever dropped", "the first and the last too", script.toString());
    }

    private static void writeStampAndReadMark() {
        String sentence = "Else the write stamp becomes the greatest of itself, the key's read mark plus 1, "
            + "and the greatest stamp of the key's versions plus 1";
        String stamps1To4On0And3On1 = """
            begin(0) = 0
            begin(0) = 1
            begin(0) = 2
            begin(0) = 3
            begin(1) = 4
            begin(1) = 5
            begin(1) = 6
            stamp(6) = 3
            """;
        int[] due = {3, 3, 4, 5};
        for (int reader = 0; reader < 4; reader++) {
            Quotes.promise(7, sentence, "a read mark of " + (reader + 1) + " and a write stamp of 3",
                stamps1To4On0And3On1 + "read(" + reader + ", 3) = 0\n write(6, 3, 9) = 0\n stamp(6) = 3\n"
                + "commit(6) = 0\n committed(0) = " + due[reader]);
        }
        Quotes.promise(7, sentence, "neither a read mark nor a version",
            stamps1To4On0And3On1 + "write(6, 3, 9) = 0\n commit(6) = 0\n committed(0) = 3");
        Quotes.promise(7, sentence, "the read mark of this key alone", stamps1To4On0And3On1 + """
            read(3, 2) = 0
            read(3, 7) = 0
            write(6, 3, 9) = 0
            commit(6) = 0
            committed(0) = 3
            """);
        Quotes.promise(7, sentence, "a write of the least key and then of one with a lesser read mark", stamps1To4On0And3On1 + """
            read(3, 0) = 0
            read(0, 15) = 0
            write(6, 0, 9) = 0
            write(6, 15, 9) = 0
            commit(6) = 0
            committed(0) = 5
            """);
    }

    private static void writeStampAndVersions() {
        String sentence = "and the greatest stamp of the key's versions plus 1";
        String stamps1To4On0And3On1 = """
            begin(0) = 0
            begin(0) = 1
            begin(0) = 2
            begin(0) = 3
            begin(1) = 4
            begin(1) = 5
            begin(1) = 6
            stamp(6) = 3
            """;
        int[] due = {3, 3, 4, 5};
        for (int writer = 0; writer < 4; writer++) {
            Quotes.promise(7, sentence, "a version at " + (writer + 1) + " and a write stamp of 3",
                stamps1To4On0And3On1 + "write(" + writer + ", 3, 8) = 0\n commit(" + writer + ") = 0\n"
                + "write(6, 3, 9) = 0\n stamp(6) = 3\n commit(6) = 0\n committed(1) = " + due[writer]);
        }
        Quotes.promise(7, sentence, "of several the greatest", stamps1To4On0And3On1 + """
            write(0, 3, 8) = 0
            commit(0) = 0
            write(2, 3, 8) = 0
            commit(2) = 0
            write(3, 3, 8) = 0
            commit(3) = 0
            write(6, 3, 9) = 0
            commit(6) = 0
            committed(3) = 5
            """);
        Quotes.promise(7, sentence, "also where it is above the limit", """
            begin(0) = 0
            tickAll(20)
            begin(1) = 1
            write(1, 3, 8) = 0
            commit(1) = 0
            write(0, 3, 9) = 0
            stamp(0) = 1
            commit(0) = 0
            committed(1) = 20W+2
            """);
        Quotes.promise(7, sentence, "a version and a greater read mark", stamps1To4On0And3On1 + """
            write(2, 3, 8) = 0
            commit(2) = 0
            read(3, 3) = 8
            write(6, 3, 9) = 0
            commit(6) = 0
            committed(1) = 5
            """);
    }
}
