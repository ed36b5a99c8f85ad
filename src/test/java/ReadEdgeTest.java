/** The boundary cases of promise 6: read. */
public final class ReadEdgeTest {
    public static void main(String[] args) {
        saysNoSuchSlotOrKey();
        saysTheState();
        saysHurt();
        stoppingCodesInTheirOrder();
        messages();
        messagesOfEveryAnswer();
        ownIntent();
        nobodyInTheWay();
        pushesTheOneInTheWay();
        versionsAboveTheReadStamp();
        versionsNotAboveTheLimit();
        restartsAtTheGreatest();
        readMark();
        hasReadTheKey();
        valueNotAboveTheReadStamp();
        valueAboveTheReadStampAlone();
        zeroIfThereIsNone();
        Checks.end();
    }

    private static void saysNoSuchSlotOrKey() {
        String sentence = "A stopping code c is answered as 4294967296 + c.";
        Quotes.promise(6, sentence, "-1 slot too small, too large", Quotes.outside(8, "read(#, 0) = 4294967295"));
        Quotes.promise(6, sentence, "-1 key too small, too large",
            "begin(0) = 0\n remember()\n" + Quotes.outside(16, "read(0, #) = 4294967295") + "same()");
        Quotes.promise(6, sentence, "-1 both at once", """
            read(-1, -1) = 4294967295
            read(8, 16) = 4294967295
            read(MIN, MAX) = 4294967295
            read(MAX, MIN) = 4294967295
            """);
        Quotes.promise(6, sentence, "no code for the least and the greatest slot and key",
            Quotes.each(0, 7, "begin(0) = #") + """
            read(0, 0) = 0
            read(0, 15) = 0
            read(7, 0) = 0
            read(7, 15) = 0
            """);
    }

    private static void saysTheState() {
        String sentence = "A stopping code c is answered as 4294967296 + c.";
        Quotes.promise(6, sentence, "-4 in a new object and behind a clean", Quotes.each(0, 7, "read(#, 3) = 4294967292")
            + "clock(3) = 0\n begin(0) = 0\n abort(0) = 0\n clean(0) = 0\n remember()\n read(0, 3) = 4294967292\n same()");
        Quotes.promise(6, sentence, "-6", "begin(0) = 0\n abort(0) = 0\n remember()\n read(0, 3) = 4294967290\n same()");
        Quotes.promise(6, sentence, "-8", "begin(0) = 0\n commit(0) = 0\n remember()\n read(0, 3) = 4294967288\n same()");
    }

    private static void saysHurt() {
        String sentence = "1 hurt: the mark is taken away then, and nothing else changes.";
        Quotes.term(6, sentence, "once, whatever is read, and then no more", """
            begin(0) = 0
            begin(3) = 1
            write(1, 5, 1) = 0
            write(0, 5, 2) = 0
            remember()
            read(1, 9) = 4294967297
            same()
            read(1, 9) = 0
            """);
        Quotes.term(6, sentence, "the key does not count as read, and its read mark stays", """
            begin(0) = 0
            begin(0) = 1
            begin(2) = 2
            write(1, 5, 1) = 0
            write(0, 5, 2) = 0
            stamp(1) = 2
            read(1, 7) = C+1
            write(2, 7, 1) = 0
            commit(2) = 0
            committed(0) = 1
            """);
    }

    private static void stoppingCodesInTheirOrder() {
        String sentence = "STOPPING CODES of read, write, commit, the first that holds, in this order: "
            + "-1 slot not 0 .. 7, or key (of read, write) not 0 .. 15; -4 the slot is free; -6 aborted; -8 committed; 1 hurt";
        Quotes.term(6, sentence, "-1 before -4", "read(0, 16) = C-1\n read(0, -1) = C-1\n read(0, 15) = C-4");
        Quotes.term(6, sentence, "-1 before -6", "begin(0) = 0\n abort(0) = 0\n read(0, 16) = C-1\n read(0, 15) = C-6");
        Quotes.term(6, sentence, "-1 before -8", "begin(0) = 0\n commit(0) = 0\n read(0, -1) = C-1\n read(0, 0) = C-8");
        String slot1IsHurt = """
            begin(0) = 0
            begin(3) = 1
            write(1, 5, 1) = 0
            write(0, 5, 2) = 0
            """;
        Quotes.term(6, sentence, "-1 before 1, and the mark stays", slot1IsHurt + "read(1, 16) = C-1\n read(1, 15) = C+1");
        Quotes.term(6, sentence, "-6 before 1", slot1IsHurt + "abort(1) = 0\n read(1, 15) = C-6\n read(1, 15) = C-6");
        Quotes.term(6, sentence, "-4 before 1", slot1IsHurt + "abort(1) = 0\n clean(1) = 0\n read(1, 15) = C-4");
    }

    private static void messages() {
        String sentence = "Both are done also where two nodes named below are the same one.";
        Quotes.term(6, sentence, "gateway and owner", """
            tick(2, 1) = 0
            begin(2) = 0
            clock(2) = 1W+1
            read(0, 2) = 0
            clock(2) = 1W+4
            read(0, 14) = 0
            clock(2) = 1W+7
            """);
        Quotes.term(6, sentence, "gateway, owner and the other one's gateway", """
            begin(2) = 0
            begin(2) = 1
            write(0, 2, 5) = 0
            clock(2) = 5
            read(1, 2) = 0
            clock(2) = 10
            """);
    }

    private static void messagesOfEveryAnswer() {
        String sentence = "event at g; o takes in g's clock; what follows; g takes in o's clock.";
        Quotes.promise(6, sentence, "the owner is ahead", """
            tick(3, 2) = 0
            begin(0) = 0
            read(0, 3) = 0
            clock(3) = 2W+1
            clock(0) = 2W+2
            """);
        Quotes.promise(6, sentence, "the gateway is ahead", """
            tick(0, 2) = 0
            begin(0) = 0
            read(0, 3) = 0
            clock(3) = 2W+3
            clock(0) = 2W+4
            """);
        Quotes.promise(6, sentence, "neither is ahead of its reading", """
            begin(0) = 0
            tick(0, 2) = 0
            tick(3, 3) = 0
            read(0, 3) = 0
            clock(3) = 3W+1
            clock(0) = 3W+2
            """);
        Quotes.promise(6, sentence, "the own intent's value is answered", """
            begin(0) = 0
            write(0, 3, 5) = 0
            clock(0) = 4
            read(0, 3) = 5
            clock(3) = 6
            clock(0) = 7
            """);
        Quotes.promise(6, sentence, "a restart is answered", """
            begin(0) = 0
            begin(1) = 1
            begin(1) = 2
            write(2, 3, 9) = 0
            commit(2) = 0
            clean(2) = 0
            clock(0) = 1
            clock(3) = 7
            read(0, 3) = C+1
            clock(3) = 8
            clock(0) = 9
            """);
    }

    private static void ownIntent() {
        String sentence = "Has the key an intent of this transaction: that value is answered.";
        for (String value : new String[] {"0", "1", "-1", "MIN", "MAX", "MIN+1"}) {
            Quotes.promise(6, sentence, "the value " + value,
                "begin(0) = 0\n write(0, 15, " + value + ") = 0\n read(0, 15) = " + value);
        }
        Quotes.promise(6, sentence, "also where there is a version that would be missed", """
            begin(0) = 0
            begin(0) = 1
            write(1, 3, 9) = 0
            commit(1) = 0
            write(0, 3, 4) = 0
            versions(3) = 1
            read(0, 3) = 4
            stamp(0) = 1
            """);
        Quotes.promise(6, sentence, "the key does not count as read then", """
            begin(0) = 0
            write(0, 3, 4) = 0
            read(0, 3) = 4
            begin(1) = 1
            read(1, 6) = 0
            write(0, 6, 4) = 0
            clock(3) = 6
            commit(0) = 0
            clock(3) = 6
            stamp(0) = 2
            """);
        Quotes.promise(6, sentence, "its read mark stays then", """
            begin(0) = 0
            begin(1) = 1
            begin(1) = 2
            write(2, 3, 4) = 0
            read(2, 3) = 4
            abort(2) = 0
            write(0, 3, 5) = 0
            commit(0) = 0
            committed(0) = 1
            """);
    }

    private static void nobodyInTheWay() {
        String sentence = "LOOKING UP key k for transaction T does nothing if k has no intent of another transaction than T.";
        Quotes.term(6, sentence, "no intent", """
            begin(0) = 0
            begin(1) = 1
            write(1, 6, 1) = 0
            clock(1) = 4
            read(0, 2) = 0
            clock(1) = 4
            """);
        Quotes.term(6, sentence, "its own intent, also if it has been silent for more than 40", """
            begin(0) = 0
            write(0, 3, 8) = 0
            tickAll(41)
            read(0, 3) = 8
            state(0) = 1
            """);
    }

    private static void pushesTheOneInTheWay() {
        String sentence = "stands U in the way and U's write stamp is not above this transaction's read stamp, "
            + "U's write stamp becomes that read stamp plus 1";
        String stamps1To3On0And1To3On1 = """
            begin(0) = 0
            begin(0) = 1
            begin(0) = 2
            begin(1) = 3
            begin(1) = 4
            begin(1) = 5
            """;
        Quotes.promise(6, sentence, "below", stamps1To3On0And1To3On1 + """
            write(0, 2, 5) = 0
            read(4, 2) = 0
            commit(0) = 0
            committed(0) = 3
            """);
        Quotes.promise(6, sentence, "equal", stamps1To3On0And1To3On1 + """
            write(1, 2, 5) = 0
            read(4, 2) = 0
            commit(1) = 0
            committed(0) = 3
            """);
        Quotes.promise(6, sentence, "above by 1", stamps1To3On0And1To3On1 + """
            write(1, 2, 5) = 0
            read(3, 2) = 0
            commit(1) = 0
            committed(0) = 2
            """);
        Quotes.promise(6, sentence, "above by 2", stamps1To3On0And1To3On1 + """
            write(2, 2, 5) = 0
            read(3, 2) = 0
            commit(2) = 0
            committed(0) = 3
            """);
        Quotes.promise(6, sentence, "its read stamp stays", stamps1To3On0And1To3On1 + """
            write(0, 2, 5) = 0
            read(5, 2) = 0
            stamp(0) = 1
            """);
        Quotes.promise(6, sentence, "above the read stamp, though not above the write stamp", """
            begin(0) = 0
            begin(1) = 1
            begin(1) = 2
            begin(2) = 3
            begin(2) = 4
            begin(2) = 5
            read(5, 8) = 0
            write(0, 8, 1) = 0
            write(2, 3, 5) = 0
            read(0, 3) = 0
            commit(2) = 0
            committed(0) = 2
            commit(0) = 1
            stamp(0) = 4
            """);
    }

    private static void versionsAboveTheReadStamp() {
        String sentence = "has the key versions with stamps above the read stamp";
        Quotes.promise(6, sentence, "equal is not above", """
            begin(0) = 0
            begin(1) = 1
            write(1, 3, 7) = 0
            commit(1) = 0
            committed(0) = 1
            read(0, 3) = 7
            stamp(0) = 1
            """);
        Quotes.promise(6, sentence, "above by 1", """
            begin(0) = 0
            begin(1) = 1
            begin(1) = 2
            write(2, 3, 7) = 0
            commit(2) = 0
            committed(0) = 2
            read(0, 3) = C+1
            stamp(0) = 2
            read(0, 3) = 7
            """);
        Quotes.promise(6, sentence, "above the read stamp, though not above the write stamp", """
            begin(0) = 0
            begin(1) = 1
            begin(1) = 2
            begin(1) = 3
            read(3, 6) = 0
            write(0, 6, 1) = 0
            write(2, 3, 7) = 0
            commit(2) = 0
            committed(0) = 2
            read(0, 3) = C+1
            stamp(0) = 4
            """);
    }

    private static void versionsNotAboveTheLimit() {
        String sentence = "and not above the limit";
        Quotes.promise(6, sentence, "within, as near as 512 calls come",
            "begin(0) = 0\n tickAll(10)\n" + Quotes.times(300, "tick(3, 10) = 0") + """
            begin(3) = 1
            stamp(1) = 10W+301
            write(1, 3, 7) = 0
            commit(1) = 0
            read(0, 3) = C+1
            """);
        Quotes.promise(6, sentence, "above, as near as can be", """
            begin(0) = 0
            tickAll(10)
            tick(3, 11) = 0
            begin(3) = 1
            stamp(1) = 11W+1
            write(1, 3, 7) = 0
            commit(1) = 0
            read(0, 3) = 0
            stamp(0) = 1
            state(0) = 1
            """);
    }

    private static void restartsAtTheGreatest() {
        String sentence = "this transaction restarts at the greatest of these stamps, answer 4294967297.";
        String versionsAt1And2And3 = """
            begin(0) = 0
            begin(1) = 1
            begin(1) = 2
            begin(1) = 3
            write(1, 3, 10) = 0
            commit(1) = 0
            write(2, 3, 20) = 0
            commit(2) = 0
            write(3, 3, 30) = 0
            commit(3) = 0
            clean(3) = 0
            committed(0) = 1
            committed(1) = 2
            committed(2) = 3
            versions(3) = 3
            """;
        Quotes.promise(6, sentence, "of two above and one that is not", versionsAt1And2And3 + """
            read(0, 3) = 4294967297
            stamp(0) = 3
            state(0) = 1
            read(0, 3) = 30
            """);
        Quotes.promise(6, sentence, "those above the limit are none of these", """
            begin(0) = 0
            begin(1) = 1
            tickAll(10)
            begin(3) = 2
            write(2, 3, 20) = 0
            commit(2) = 0
            tick(3, 11) = 0
            begin(3) = 3
            write(3, 3, 30) = 0
            commit(3) = 0
            clean(3) = 0
            versions(3) = 2
            read(0, 3) = 4294967297
            stamp(0) = 10W+1
            read(0, 3) = 20
            """);
        Quotes.promise(6, sentence, "hurt it is not by that", versionsAt1And2And3 + """
            read(0, 3) = 4294967297
            commit(0) = 0
            """);
        Quotes.promise(6, sentence, "the key does not count as read then", """
            begin(0) = 0
            begin(1) = 1
            begin(1) = 2
            write(2, 3, 10) = 0
            commit(2) = 0
            read(0, 3) = C+1
            clock(3) = 8
            begin(1) = 3
            read(3, 6) = 0
            write(0, 6, 5) = 0
            commit(0) = 0
            stamp(0) = 9
            clock(3) = 8
            """);
    }

    private static void readMark() {
        String sentence = "Else the key's read mark becomes the greater of itself and the read stamp";
        String stamps1To3On0And1On1 = """
            begin(0) = 0
            begin(0) = 1
            begin(0) = 2
            begin(1) = 3
            """;
        Quotes.promise(6, sentence, "from 0 up", stamps1To3On0And1On1 + """
            read(0, 3) = 0
            write(3, 3, 1) = 0
            commit(3) = 0
            committed(0) = 2
            """);
        Quotes.promise(6, sentence, "a greater read stamp", stamps1To3On0And1On1 + """
            read(0, 3) = 0
            read(2, 3) = 0
            write(3, 3, 1) = 0
            commit(3) = 0
            committed(0) = 4
            """);
        Quotes.promise(6, sentence, "a lesser read stamp", stamps1To3On0And1On1 + """
            read(2, 3) = 0
            read(0, 3) = 0
            write(3, 3, 1) = 0
            commit(3) = 0
            committed(0) = 4
            """);
        Quotes.promise(6, sentence, "of this key alone", stamps1To3On0And1On1 + """
            read(2, 3) = 0
            write(3, 2, 1) = 0
            write(3, 4, 1) = 0
            write(3, 7, 1) = 0
            commit(3) = 0
            committed(0) = 1
            """);
        Quotes.promise(6, sentence, "the read stamp, where the write stamp is above it", stamps1To3On0And1On1 + """
            read(2, 6) = 0
            write(0, 6, 1) = 0
            read(0, 3) = 0
            write(3, 3, 1) = 0
            commit(3) = 0
            committed(0) = 2
            """);
    }

    /** A commit goes through a key that has been read, which its owner's clock shows. */
    private static void hasReadTheKey() {
        String sentence = "the transaction has read the key";
        for (int key : new int[] {0, 1, 14, 15}) {
            int owner = key % 4;
            int gateway = (owner + 1) % 4;
            int other = (owner + 2) % 4 + 4;
            Quotes.promise(6, sentence, "key " + key, "begin(" + gateway + ") = 0\n"
                + "begin(" + gateway + ") = 1\n"
                + "read(1, " + other + ") = 0\n"
                + "read(0, " + key + ") = 0\n"
                + "clock(" + owner + ") = 7\n"
                + "write(0, " + other + ", 5) = 0\n"
                + "clock(" + owner + ") = 7\n"
                + "commit(0) = 0\n"
                + "clock(" + owner + ") = 13\n");
        }
    }

    private static void valueNotAboveTheReadStamp() {
        String sentence = "the value of the version with the greatest stamp not above the read stamp";
        for (String value : new String[] {"0", "1", "-1", "MIN", "MAX", "MIN+1"}) {
            Quotes.promise(6, sentence, "the value " + value, "begin(0) = 0\n write(0, 15, " + value + ") = 0\n"
                + "commit(0) = 0\n begin(3) = 1\n read(1, 15) = " + value);
        }
        Quotes.promise(6, sentence, "stamps below, equal, and above the limit", """
            tick(0, 1) = 0
            begin(0) = 0
            begin(0) = 1
            begin(1) = 2
            write(2, 3, 10) = 0
            commit(2) = 0
            tick(1, 1) = 0
            begin(1) = 3
            begin(1) = 4
            stamp(1) = 1W+2
            stamp(4) = 1W+2
            write(4, 3, 20) = 0
            commit(4) = 0
            tickAll(12)
            begin(1) = 5
            write(5, 3, 30) = 0
            commit(5) = 0
            clean(5) = 0
            versions(3) = 3
            read(1, 3) = 20
            stamp(1) = 1W+2
            """);
    }

    /** The write stamp is above the version, which is above the limit and so was not missed. */
    private static void valueAboveTheReadStampAlone() {
        Quotes.promise(6, "the value of the version with the greatest stamp not above the read stamp",
            "above the read stamp, though not above the write stamp", """
            begin(0) = 0
            write(0, 3, 10) = 0
            commit(0) = 0
            begin(0) = 1
            tickAll(11)
            begin(1) = 2
            write(2, 3, 20) = 0
            commit(2) = 0
            clean(2) = 0
            begin(1) = 2
            read(2, 4) = 0
            write(1, 4, 1) = 0
            read(1, 3) = 10
            commit(1) = 1
            stamp(1) = 11W+9
            """);
    }

    private static void zeroIfThereIsNone() {
        String sentence = "0 if there is none";
        Quotes.promise(6, sentence, "no version, every key", "begin(0) = 0\n" + Quotes.each(0, 15, "read(0, #) = 0"));
        Quotes.term(6, "A key never written holds 0.", "where all others have been written", "begin(0) = 0\n"
            + Quotes.each(0, 8, "write(0, #, 7) = 0") + Quotes.each(10, 15, "write(0, #, 7) = 0") + """
            commit(0) = 0
            clean(0) = 0
            begin(1) = 0
            read(0, 9) = 0
            """);
        Quotes.promise(6, sentence, "written by an aborted transaction", """
            begin(0) = 0
            write(0, 3, 9) = 0
            abort(0) = 0
            begin(0) = 1
            read(1, 3) = 0
            """);
        Quotes.promise(6, sentence, "an intent of another one that is pending", """
            begin(0) = 0
            write(0, 3, 9) = 0
            begin(0) = 1
            read(1, 3) = 0
            """);
        Quotes.promise(6, sentence, "all versions above the limit", """
            begin(0) = 0
            tickAll(11)
            begin(1) = 1
            write(1, 3, 9) = 0
            commit(1) = 0
            clean(1) = 0
            read(0, 3) = 0
            """);
    }
}
