/** The boundary cases of promises 5 and 9 to 13: begin, abort, heartbeat, clean, state, stamp. */
public final class SlotEdgeTest {
    /** The second one writes what the first one writes then, and so slot 1 is hurt. */
    private static final String SLOT_1_IS_HURT = """
        begin(0) = 0
        begin(3) = 1
        write(1, 5, 1) = 0
        write(0, 5, 2) = 0
        """;

    public static void main(String[] args) {
        beginSaysNoSuchNode();
        beginSaysNoFreeSlot();
        beginRefusesWithoutAChange();
        beginIsAnEvent();
        beginTakesTheLeastFreeSlot();
        beginSetsTheGateway();
        beginSetsLastBeat();
        beginSetsThePlace();
        beginSetsTheStamps();
        beginSetsTheLimit();
        beginForgetsTheSlotsPast();
        abortCodes();
        abortIsForGood();
        abortLeavesIntents();
        heartbeatCodes();
        heartbeatSetsLastBeat();
        cleanCodes();
        cleanRefusesWithoutAChange();
        cleanSettlesIntents();
        state();
        stamp();
        Checks.end();
    }

    private static void beginSaysNoSuchNode() {
        String sentence = "-1 node not 0 .. 3";
        Quotes.promise(5, sentence, "too small, too large", Quotes.outside(4, "begin(#) = -1"));
        Quotes.promise(5, sentence, "the least and the greatest node", """
            begin(0) = 0
            begin(3) = 1
            clock(0) = 1
            clock(1) = 0
            clock(2) = 0
            clock(3) = 1
            """);
        Quotes.promise(5, sentence, "before the slots are looked at",
            Quotes.each(0, 7, "begin(2) = #") + Quotes.outside(4, "begin(#) = -1"));
    }

    private static void beginSaysNoFreeSlot() {
        String sentence = "-3 no slot is free";
        Quotes.promise(5, sentence, "eight begin, the ninth on no node",
            Quotes.each(0, 7, "begin(1) = #") + Quotes.each(0, 3, "begin(#) = -3"));
        Quotes.promise(5, sentence, "the slot of an ended transaction is not free before it is cleaned",
            Quotes.each(0, 7, "begin(1) = #") + """
            commit(0) = 0
            begin(1) = -3
            abort(7) = 0
            begin(1) = -3
            clean(7) = 0
            begin(1) = 7
            begin(1) = -3
            """);
    }

    private static void beginRefusesWithoutAChange() {
        String sentence = "with these nothing changes";
        Quotes.promise(5, sentence, "-1", "tick(1, 4) = 0\n begin(1) = 0\n remember()\n"
            + Quotes.outside(4, "begin(#) = -1") + "same()\n begin(1) = 1");
        Quotes.promise(5, sentence, "-3", "tick(1, 4) = 0\n" + Quotes.each(0, 7, "begin(1) = #")
            + "remember()\n" + Quotes.each(0, 3, "begin(#) = -3") + "same()");
        Quotes.promise(5, sentence, "-1 where no slot is free", Quotes.each(0, 7, "begin(1) = #")
            + "remember()\n begin(-1) = -1\n begin(4) = -1\n same()");
    }

    private static void beginIsAnEvent() {
        String sentence = "Else an event at the node";
        Quotes.promise(5, sentence, "at this node alone, once", """
            tick(1, 2) = 0
            begin(1) = 0
            clock(1) = 2W+1
            begin(1) = 1
            clock(1) = 2W+2
            clock(0) = 0
            clock(2) = 0
            clock(3) = 0
            """);
    }

    private static void beginTakesTheLeastFreeSlot() {
        String sentence = "the least free slot gets a pending transaction";
        Quotes.promise(5, sentence, "from the least to the greatest",
            Quotes.each(0, 7, "state(#) = 0\n begin(3) = #\n state(#) = 1"));
        Quotes.promise(5, sentence, "the least of those that were freed, whichever was freed first",
            Quotes.each(0, 7, "begin(0) = #") + """
            abort(6) = 0
            abort(3) = 0
            abort(0) = 0
            clean(6) = 0
            clean(0) = 0
            clean(3) = 0
            begin(1) = 0
            begin(1) = 3
            begin(1) = 6
            begin(1) = -3
            """);
    }

    private static void beginSetsTheGateway() {
        String sentence = "gateway this node";
        Quotes.promise(5, sentence, "the least and the greatest", """
            begin(0) = 0
            begin(3) = 1
            heartbeat(0) = 0
            clock(0) = 2
            clock(3) = 1
            heartbeat(1) = 0
            clock(0) = 2
            clock(3) = 2
            """);
        Quotes.promise(5, sentence, "where the slot was used on another node before", """
            begin(0) = 0
            begin(0) = 1
            abort(1) = 0
            clean(1) = 0
            begin(3) = 1
            heartbeat(1) = 0
            clock(0) = 2
            clock(3) = 2
            """);
    }

    private static void beginSetsLastBeat() {
        String sentence = "last beat its reading";
        String writesAtReading10 = """
            tickAll(10)
            begin(0) = 0
            write(0, 1, 5) = 0
            begin(1) = 1
            """;
        Quotes.promise(5, sentence, "40 later it is not silent yet", writesAtReading10 + """
            tickAll(50)
            read(1, 1) = 0
            state(0) = 1
            """);
        Quotes.promise(5, sentence, "41 later it is", writesAtReading10 + """
            tickAll(51)
            read(1, 1) = 0
            state(0) = 3
            """);
        Quotes.promise(5, sentence, "also where the slot was used before", """
            tickAll(5)
            begin(0) = 0
            begin(0) = 1
            abort(1) = 0
            clean(1) = 0
            tickAll(46)
            begin(0) = 1
            write(1, 1, 5) = 0
            begin(1) = 2
            read(2, 1) = 0
            state(1) = 1
            """);
        Quotes.promise(5, sentence, "its reading, though its clock is ahead of that", """
            tickAll(30)
            tick(1, 40) = 0
            begin(1) = 0
            read(0, 4) = 0
            begin(0) = 1
            stamp(1) = 40W+4
            write(1, 5, 1) = 0
            tickAll(71)
            read(0, 5) = 0
            state(1) = 3
            """);
    }

    private static void beginSetsThePlace() {
        String sentence = "the next place in the order of begins";
        Quotes.promise(5, sentence, "the first one is before the second", """
            begin(0) = 0
            begin(0) = 1
            write(0, 5, 1) = 0
            write(1, 5, 2) = -5
            """);
        Quotes.promise(5, sentence, "the eighth is behind the seventh",
            Quotes.each(0, 7, "begin(0) = #") + "write(6, 5, 1) = 0\n write(7, 5, 2) = -5");
        Quotes.promise(5, sentence, "a lesser slot that is used again is behind a greater one", """
            begin(0) = 0
            begin(0) = 1
            abort(0) = 0
            clean(0) = 0
            begin(0) = 0
            write(1, 5, 1) = 0
            write(0, 5, 2) = -5
            """);
        Quotes.promise(5, sentence, "one that is used again and again is behind all others", """
            begin(0) = 0
            begin(0) = 1
            abort(1) = 0
            clean(1) = 0
            begin(0) = 1
            begin(0) = 2
            abort(1) = 0
            clean(1) = 0
            begin(0) = 1
            write(2, 5, 1) = 0
            write(1, 5, 2) = -5
            """);
        Quotes.promise(5, sentence, "not the order of the stamps", """
            tick(0, 9) = 0
            begin(0) = 0
            begin(1) = 1
            stamp(0) = 9W+1
            stamp(1) = 1
            write(0, 5, 1) = 0
            write(1, 5, 2) = -5
            """);
    }

    private static void beginSetsTheStamps() {
        String sentence = "read stamp and write stamp the node's clock";
        Quotes.promise(5, sentence, "the least there is, behind the event", """
            begin(3) = 0
            clock(3) = 1
            stamp(0) = 1
            commit(0) = 0
            committed(0) = 1
            """);
        Quotes.promise(5, sentence, "the clock where it is ahead of the reading", """
            tick(0, 10) = 0
            begin(0) = 0
            read(0, 1) = 0
            begin(1) = 1
            reading(1) = 0
            stamp(1) = 10W+4
            commit(1) = 0
            committed(0) = 10W+4
            """);
        Quotes.promise(5, sentence, "the two are equal, so that a commit goes through no key", """
            begin(0) = 0
            read(0, 1) = 0
            clock(1) = 3
            commit(0) = 0
            clock(1) = 3
            """);
    }

    /** The logical part of 1048575 is out of reach of 512 calls, so versions stand on both sides of it. */
    private static void beginSetsTheLimit() {
        String sentence = "limit the stamp whose wall part is 10 more than the clock's and whose logical part is 1048575";
        Quotes.promise(5, sentence, "a wall part 10 more and a logical part far above the clock's is within",
            "begin(0) = 0\n stamp(0) = 1\n tickAll(10)\n" + Quotes.times(200, "tick(1, 10) = 0") + """
            begin(1) = 1
            stamp(1) = 10W+201
            write(1, 1, 5) = 0
            commit(1) = 0
            read(0, 1) = C+1
            stamp(0) = 10W+201
            """);
        Quotes.promise(5, sentence, "a wall part 11 more is above, with the least logical part there is", """
            begin(0) = 0
            tickAll(10)
            tick(1, 11) = 0
            begin(1) = 1
            stamp(1) = 11W+1
            write(1, 1, 5) = 0
            commit(1) = 0
            read(0, 1) = 0
            stamp(0) = 1
            """);
        Quotes.promise(5, sentence, "a wall part 11 more is above also for a clock with a great logical part",
            Quotes.times(50, "tick(0, 0) = 0") + """
            begin(0) = 0
            stamp(0) = 51
            tickAll(10)
            tick(1, 11) = 0
            begin(1) = 1
            stamp(1) = 11W+1
            write(1, 1, 5) = 0
            commit(1) = 0
            read(0, 1) = 0
            stamp(0) = 51
            """);
        String clockIsAhead = """
            tick(0, 5) = 0
            begin(0) = 0
            read(0, 1) = 0
            begin(1) = 1
            reading(1) = 0
            stamp(1) = 5W+4
            """;
        Quotes.promise(5, sentence, "the clock's wall part, not the reading: 10 more", clockIsAhead + """
            tickAll(15)
            begin(2) = 2
            stamp(2) = 15W+1
            write(2, 2, 7) = 0
            commit(2) = 0
            read(1, 2) = C+1
            stamp(1) = 15W+1
            """);
        Quotes.promise(5, sentence, "the clock's wall part, not the reading: 11 more", clockIsAhead + """
            tickAll(16)
            begin(2) = 2
            stamp(2) = 16W+1
            write(2, 2, 7) = 0
            commit(2) = 0
            read(1, 2) = 0
            stamp(1) = 5W+4
            """);
    }

    private static void beginForgetsTheSlotsPast() {
        String sentence = "no key read, not hurt";
        Quotes.promise(5, sentence, "not hurt, where the one before in the slot was", SLOT_1_IS_HURT + """
            abort(1) = 0
            clean(1) = 0
            begin(3) = 1
            read(1, 6) = 0
            """);
        Quotes.promise(5, sentence, "no key read, where the one before in the slot had read all",
            "begin(0) = 0\n" + Quotes.each(0, 15, "read(0, #) = 0") + """
            abort(0) = 0
            clean(0) = 0
            begin(0) = 0
            write(0, 1, 7) = 0
            clock(0) = 53
            clock(1) = 52
            clock(2) = 45
            clock(3) = 48
            begin(1) = 1
            read(1, 2) = 0
            write(0, 2, 7) = 0
            stamp(0) = 50
            clock(0) = 57
            clock(1) = 56
            clock(2) = 56
            clock(3) = 48
            commit(0) = 0
            stamp(0) = 54
            clock(0) = 58
            clock(1) = 56
            clock(2) = 56
            clock(3) = 48
            """);
    }

    private static void abortCodes() {
        String order = "abort and heartbeat have -1, -4, -6, -8 in the same way, and don't look at the mark.";
        Quotes.term(9, order, "-1 too small, too large", Quotes.outside(8, "abort(#) = -1"));
        Quotes.term(9, order, "the least and the greatest slot",
            Quotes.each(0, 7, "begin(0) = #") + "abort(0) = 0\n abort(7) = 0\n state(0) = 3\n state(7) = 3\n state(1) = 1");
        Quotes.term(9, order, "-4 in a new object, and behind a clean",
            Quotes.each(0, 7, "abort(#) = -4") + "begin(0) = 0\n abort(0) = 0\n clean(0) = 0\n abort(0) = -4");
        Quotes.term(9, order, "-6 the second time", "begin(0) = 0\n abort(0) = 0\n remember()\n abort(0) = -6\n same()");
        Quotes.term(9, order, "-6 where others aborted it", """
            begin(0) = 0
            write(0, 1, 5) = 0
            tickAll(41)
            begin(1) = 1
            read(1, 1) = 0
            abort(0) = -6
            """);
        Quotes.term(9, order, "-8, and it stays committed", """
            begin(0) = 0
            write(0, 1, 5) = 0
            commit(0) = 0
            remember()
            abort(0) = -8
            same()
            clean(0) = 0
            versions(1) = 1
            """);
        Quotes.term(9, order, "a hurt one is aborted like others", SLOT_1_IS_HURT + "abort(1) = 0\n state(1) = 3");
    }

    private static void abortIsForGood() {
        String sentence = "Else the transaction is aborted, 0.";
        Quotes.promise(9, sentence, "one that has done nothing", "begin(2) = 0\n abort(0) = 0\n state(0) = 3\n clock(2) = 1");
        Quotes.promise(9, sentence, "its slot is not free yet, and nothing of it is committed", """
            begin(2) = 0
            write(0, 3, 1) = 0
            abort(0) = 0
            begin(2) = 1
            commit(0) = -6
            committed(0) = -1
            """);
        Quotes.promise(9, sentence, "this one alone",
            Quotes.each(0, 7, "begin(0) = #") + "abort(3) = 0\n state(2) = 1\n state(3) = 3\n state(4) = 1");
        Quotes.promise(9, sentence, "one silent for more than 40, which nobody has looked at",
            "begin(0) = 0\n write(0, 1, 5) = 0\n tickAll(41)\n abort(0) = 0");
    }

    private static void abortLeavesIntents() {
        String sentence = "Its intents stay until they are looked up or the slot is cleaned.";
        Quotes.promise(9, sentence, "stay: the abort itself moves no clock", """
            begin(1) = 0
            write(0, 0, 7) = 0
            write(0, 15, 7) = 0
            clock(0) = 3
            clock(1) = 7
            clock(3) = 6
            abort(0) = 0
            clock(0) = 3
            clock(1) = 7
            clock(3) = 6
            """);
        Quotes.promise(9, sentence, "looked up: the gateway is asked once, and no second time", """
            begin(1) = 0
            write(0, 2, 7) = 0
            abort(0) = 0
            begin(3) = 1
            clock(1) = 4
            read(1, 2) = 0
            clock(1) = 5
            read(1, 2) = 0
            clock(1) = 5
            versions(2) = 0
            """);
        Quotes.promise(9, sentence, "cleaned: the gateway is not asked any more", """
            begin(1) = 0
            write(0, 2, 7) = 0
            abort(0) = 0
            clean(0) = 0
            clock(1) = 4
            begin(3) = 0
            read(0, 2) = 0
            clock(1) = 4
            versions(2) = 0
            """);
    }

    private static void heartbeatCodes() {
        String order = "abort and heartbeat have -1, -4, -6, -8 in the same way, and don't look at the mark.";
        Quotes.term(10, order, "-1 too small, too large", "tick(0, 3) = 0\n remember()\n"
            + Quotes.outside(8, "heartbeat(#) = -1") + "same()");
        Quotes.term(10, order, "the least and the greatest slot",
            Quotes.each(0, 7, "begin(2) = #") + "heartbeat(0) = 0\n clock(2) = 9\n heartbeat(7) = 0\n clock(2) = 10");
        Quotes.term(10, order, "-4 in a new object, and behind a clean", Quotes.each(0, 7, "heartbeat(#) = -4")
            + "clock(0) = 0\n begin(0) = 0\n abort(0) = 0\n clean(0) = 0\n heartbeat(0) = -4\n clock(0) = 1");
        Quotes.term(10, order, "-6", "begin(0) = 0\n abort(0) = 0\n remember()\n heartbeat(0) = -6\n same()");
        Quotes.term(10, order, "-8", "begin(0) = 0\n commit(0) = 0\n remember()\n heartbeat(0) = -8\n same()");
        Quotes.term(10, order, "the mark of a hurt one stays, and its gateway has an event", SLOT_1_IS_HURT + """
            clock(3) = 5
            heartbeat(1) = 0
            clock(3) = 6
            commit(1) = 1
            commit(1) = 0
            """);
    }

    private static void heartbeatSetsLastBeat() {
        String sentence = "Else an event at the gateway, and the last beat becomes the gateway's reading, 0.";
        String beatsAt30 = """
            begin(0) = 0
            write(0, 1, 5) = 0
            begin(1) = 1
            tickAll(30)
            tick(1, 40) = 0
            heartbeat(0) = 0
            """;
        Quotes.promise(10, sentence, "40 later it is not silent yet", beatsAt30 + """
            tickAll(70)
            read(1, 1) = 0
            state(0) = 1
            """);
        Quotes.promise(10, sentence, "41 later it is", beatsAt30 + """
            tickAll(71)
            read(1, 1) = 0
            state(0) = 3
            """);
        Quotes.promise(10, sentence, "a beat comes in time as long as nobody has looked", """
            begin(0) = 0
            write(0, 1, 5) = 0
            begin(1) = 1
            tickAll(100)
            state(0) = 1
            heartbeat(0) = 0
            read(1, 1) = 0
            state(0) = 1
            """);
        Quotes.promise(10, sentence, "the gateway's reading, though its clock is ahead of that", """
            begin(0) = 0
            write(0, 5, 1) = 0
            tickAll(30)
            tick(1, 40) = 0
            begin(1) = 1
            read(1, 4) = 0
            clock(0) = 40W+3
            heartbeat(0) = 0
            clock(0) = 40W+4
            tickAll(71)
            read(1, 5) = 0
            state(0) = 3
            """);
        Quotes.promise(10, sentence, "twice in a row: two events", """
            begin(2) = 0
            heartbeat(0) = 0
            heartbeat(0) = 0
            clock(2) = 3
            stamp(0) = 1
            """);
    }

    private static void cleanCodes() {
        Quotes.promise(11, "-1 slot not 0 .. 7", "too small, too large", Quotes.outside(8, "clean(#) = -1"));
        Quotes.promise(11, "-1 slot not 0 .. 7", "the least and the greatest slot", Quotes.each(0, 7, "begin(0) = #") + """
            abort(0) = 0
            abort(7) = 0
            clean(0) = 0
            clean(7) = 0
            state(0) = 0
            state(7) = 0
            """);
        Quotes.promise(11, "-4 it is free", "in a new object", Quotes.each(0, 7, "clean(#) = -4"));
        Quotes.promise(11, "-4 it is free", "the second time",
            "begin(0) = 0\n commit(0) = 0\n clean(0) = 0\n clean(0) = -4\n begin(0) = 0");
        Quotes.promise(11, "-9 its transaction is pending", "from its begin on", "begin(0) = 0\n clean(0) = -9\n state(0) = 1");
        Quotes.promise(11, "-9 its transaction is pending", "a hurt one too, and its mark stays",
            SLOT_1_IS_HURT + "clean(1) = -9\n commit(1) = 1");
        Quotes.promise(11, "-9 its transaction is pending", "a silent one too, which nobody has looked at", """
            begin(0) = 0
            write(0, 1, 5) = 0
            tickAll(41)
            clean(0) = -9
            state(0) = 1
            read(0, 1) = 5
            """);
    }

    private static void cleanRefusesWithoutAChange() {
        String before = """
            begin(1) = 0
            write(0, 2, 7) = 0
            begin(3) = 1
            write(1, 6, 8) = 0
            commit(1) = 0
            remember()
            """;
        Quotes.promise(11, "-1 slot not 0 .. 7", "nothing changes", before + Quotes.outside(8, "clean(#) = -1") + "same()");
        Quotes.promise(11, "-4 it is free", "nothing changes", before + Quotes.each(2, 7, "clean(#) = -4") + "same()");
        Quotes.promise(11, "-9 its transaction is pending", "nothing changes, and its intent stays", before + """
            clean(0) = -9
            same()
            read(0, 2) = 7
            """);
    }

    private static void cleanSettlesIntents() {
        String keys = "Else for each key that has an intent of this transaction, from the least: "
            + "the owner takes in the gateway's clock";
        Quotes.promise(11, keys, "none: no clock moves", """
            tick(1, 2) = 0
            begin(1) = 0
            read(0, 2) = 0
            commit(0) = 0
            clock(0) = 0
            clock(1) = 2W+5
            clock(2) = 2W+3
            clean(0) = 0
            clock(0) = 0
            clock(1) = 2W+5
            clock(2) = 2W+3
            """);
        Quotes.promise(11, keys, "of this transaction: those of others stay, though they have ended too", """
            begin(1) = 0
            begin(2) = 1
            begin(3) = 2
            write(0, 4, 7) = 0
            write(1, 5, 8) = 0
            write(2, 6, 9) = 0
            commit(0) = 0
            abort(1) = 0
            commit(2) = 0
            clock(0) = 3
            clean(2) = 0
            versions(4) = 0
            versions(6) = 1
            clock(0) = 3
            """);
        Quotes.promise(11, keys, "the least and the greatest key", """
            begin(1) = 0
            write(0, 0, 7) = 0
            write(0, 15, 8) = 0
            commit(0) = 0
            clock(1) = 8
            clean(0) = 0
            versions(0) = 1
            versions(15) = 1
            clock(0) = 9
            clock(1) = 8
            clock(2) = 0
            clock(3) = 9
            """);
        Quotes.promise(11, keys, "all keys; the gateway owns some, and those behind take in what it has come to",
            "begin(1) = 0\n" + Quotes.each(0, 15, "write(0, #, 1) = 0") + """
            commit(0) = 0
            clock(1) = 50
            clean(0) = 0
            clock(0) = 54
            clock(1) = 54
            clock(2) = 55
            clock(3) = 55
            """ + Quotes.each(0, 15, "versions(#) = 1"));
        String version = "the intent becomes a version with the transaction's write stamp if it is committed, and is gone";
        Quotes.promise(11, version, "the write stamp, where it is above the stamp of the begin", """
            begin(0) = 0
            begin(1) = 1
            begin(1) = 2
            read(2, 3) = 0
            write(0, 3, 7) = 0
            commit(0) = 0
            clean(0) = 0
            read(1, 3) = C+1
            stamp(1) = 3
            """);
        Quotes.promise(11, version, "not if it is aborted", """
            begin(1) = 0
            write(0, 0, 7) = 0
            write(0, 15, 8) = 0
            abort(0) = 0
            clean(0) = 0
            versions(0) = 0
            versions(15) = 0
            clock(0) = 8
            clock(3) = 8
            """);
        Quotes.promise(11, version, "the 16th version of a key", Quotes.times(16, """
            begin(1) = 0
            write(0, 15, 7) = 0
            commit(0) = 0
            clean(0) = 0
            """) + "versions(15) = 16");
        Quotes.promise(11, version, "an intent that was looked up before is not settled twice", """
            begin(1) = 0
            write(0, 2, 7) = 0
            commit(0) = 0
            begin(3) = 1
            read(1, 2) = 7
            versions(2) = 1
            clock(2) = 7
            clean(0) = 0
            versions(2) = 1
            clock(2) = 7
            """);
        Quotes.promise(11, "The slot is free then, 0.", "and can be begun in at once", """
            begin(1) = 0
            abort(0) = 0
            clean(0) = 0
            state(0) = 0
            stamp(0) = -1
            read(0, 2) = C-4
            begin(2) = 0
            state(0) = 1
            """);
    }

    private static void state() {
        String sentence = "0 .. 3; -1 slot not 0 .. 7.";
        Quotes.promise(12, sentence, "too small, too large", Quotes.outside(8, "state(#) = -1"));
        Quotes.promise(12, sentence, "too small, too large, where no slot is free",
            Quotes.each(0, 7, "begin(0) = #") + Quotes.outside(8, "state(#) = -1"));
        Quotes.promise(12, sentence, "each of them, in the greatest slot", Quotes.each(0, 6, "begin(0) = #") + """
            state(7) = 0
            begin(0) = 7
            state(7) = 1
            commit(7) = 0
            state(7) = 2
            clean(7) = 0
            state(7) = 0
            begin(0) = 7
            abort(7) = 0
            state(7) = 3
            """);
        Quotes.term(12, "A slot without one is free, state 0.", "in a new object, behind a clean, behind a refused begin",
            Quotes.each(0, 7, "state(#) = 0") + "begin(4) = -1\n" + Quotes.each(0, 7, "state(#) = 0")
            + "begin(0) = 0\n abort(0) = 0\n clean(0) = 0\n" + Quotes.each(0, 7, "state(#) = 0"));
        Quotes.promise(12, sentence, "asking changes nothing", "begin(0) = 0\n remember()\n same()");
    }

    private static void stamp() {
        String sentence = "The read stamp if the transaction is pending or committed, else -1 (also if slot is not 0 .. 7).";
        Quotes.promise(13, sentence, "too small, too large", Quotes.outside(8, "stamp(#) = -1"));
        Quotes.promise(13, sentence, "too small, too large, where no slot is free",
            Quotes.each(0, 7, "begin(0) = #") + Quotes.outside(8, "stamp(#) = -1"));
        Quotes.promise(13, sentence, "the least and the greatest slot",
            Quotes.each(0, 7, "begin(0) = #") + "stamp(0) = 1\n stamp(7) = 8");
        Quotes.promise(13, sentence, "free, in a new object and behind a clean",
            Quotes.each(0, 7, "stamp(#) = -1") + "begin(0) = 0\n commit(0) = 0\n clean(0) = 0\n stamp(0) = -1");
        Quotes.promise(13, sentence, "aborted, by its client and by others", """
            begin(0) = 0
            abort(0) = 0
            stamp(0) = -1
            begin(0) = 1
            write(1, 1, 5) = 0
            tickAll(41)
            stamp(1) = 2
            begin(1) = 2
            read(2, 1) = 0
            stamp(1) = -1
            """);
        Quotes.promise(13, sentence, "pending with a greater write stamp, then committed", """
            begin(0) = 0
            begin(1) = 1
            begin(1) = 2
            read(2, 3) = 0
            write(0, 3, 7) = 0
            stamp(0) = 1
            commit(0) = 0
            stamp(0) = 3
            """);
    }
}
