/** The boundary cases of promises 1 to 4: a new object, tick, reading, clock. */
public final class NodeEdgeTest {
    public static void main(String[] args) {
        newObject();
        asHighAs512CallsReach();
        tickSaysNoSuchNode();
        tickSaysBelowWhatItShowed();
        tickSaysMoreThan10Above();
        tickRefusesWithoutAChange();
        tickIsAnEvent();
        readingsStayTogether();
        reading();
        clock();
        Checks.end();
    }

    private static void newObject() {
        String sentence = "Readings, clocks, read marks 0; no versions, no intents, all slots free.";
        Quotes.promise(1, sentence, "readings", Quotes.each(0, 3, "reading(#) = 0"));
        Quotes.promise(1, sentence, "clocks", Quotes.each(0, 3, "clock(#) = 0"));
        Quotes.promise(1, sentence, "read marks: none lifts a write stamp above 1, the least there is",
            "begin(2) = 0\n" + Quotes.each(0, 15, "write(0, #, 1) = 0") + "commit(0) = 0\n committed(0) = 1");
        Quotes.promise(1, sentence, "no versions", Quotes.each(0, 15, "versions(#) = 0"));
        Quotes.promise(1, sentence, "no versions: every key holds 0, at the least stamp",
            "begin(0) = 0\n stamp(0) = 1\n" + Quotes.each(0, 15, "read(0, #) = 0") + "stamp(0) = 1");
        Quotes.promise(1, sentence, "no intents: a read is an event, there and back, with nobody to ask",
            "begin(0) = 0\n" + Quotes.each(0, 15, "read(0, #) = 0") + """
            clock(0) = 49
            clock(1) = 42
            clock(2) = 45
            clock(3) = 48
            """);
        Quotes.promise(1, sentence, "all slots free",
            Quotes.each(0, 7, "state(#) = 0") + Quotes.each(0, 7, "stamp(#) = -1") + Quotes.each(0, 7, "abort(#) = -4")
            + Quotes.each(0, 7, "begin(1) = #"));
        Quotes.promise(1, sentence, "no transaction has been committed", Quotes.each(0, 20, "committed(#) = -1"));
    }

    /** The fastest way up: each node in turn goes 10 above the three others, of which the least is one step behind. */
    private static void asHighAs512CallsReach() {
        HlcStore store = new HlcStore();
        for (int call = 0; call < 511; call++) {
            int node = call % 4;
            int reading = 10 * (call / 3 + 1);
            Checks.due("promise 2, call " + (call + 1) + " of 512: tick(" + node + ", " + reading + ")",
                store.tick(node, reading), 0);
        }
        Checks.due("promise 4, call 512 of 512: clock(2)", store.clock(2), 1710L * 1048576L);
    }

    private static void tickSaysNoSuchNode() {
        String sentence = "-1 node not 0 .. 3";
        Quotes.promise(2, sentence, "too small, too large", Quotes.outside(4, "tick(#, 5) = -1"));
        Quotes.promise(2, sentence, "the least and the greatest node", """
            tick(0, 1) = 0
            tick(3, 2) = 0
            reading(0) = 1
            reading(1) = 0
            reading(2) = 0
            reading(3) = 2
            """);
        Quotes.promise(2, sentence, "before a reading is looked at",
            Quotes.outside(4, "tick(#, -1) = -1") + Quotes.outside(4, "tick(#, 11) = -1")
            + Quotes.outside(4, "tick(#, MIN) = -1") + Quotes.outside(4, "tick(#, MAX) = -1"));
    }

    private static void tickSaysBelowWhatItShowed() {
        String sentence = "-2 the reading is below what it showed";
        Quotes.promise(2, sentence, "by 1, and the same reading is not below", """
            tick(1, 5) = 0
            tick(1, 4) = -2
            reading(1) = 5
            tick(1, 5) = 0
            tick(1, 6) = 0
            """);
        Quotes.promise(2, sentence, "below 0, where a new clock stands", """
            tick(0, -1) = -2
            tick(1, -2) = -2
            tick(2, -10) = -2
            tick(3, -11) = -2
            tick(3, 0) = 0
            """);
        Quotes.promise(2, sentence, "as far below as can be, where a difference wraps around", """
            tick(0, MIN) = -2
            tick(1, MIN+1) = -2
            tick(2, 2) = 0
            tick(2, MIN) = -2
            tick(2, MIN+1) = -2
            tick(2, MIN+2) = -2
            tick(2, -MAX) = -2
            reading(2) = 2
            """);
        Quotes.promise(2, sentence, "what this node showed, not what another shows", """
            tick(0, 10) = 0
            tick(1, 9) = 0
            tick(2, 1) = 0
            tick(3, 0) = 0
            tick(1, 8) = -2
            tick(2, 0) = -2
            """);
        Quotes.promise(2, sentence, "what it showed, though its clock may be ahead of that", """
            tick(0, 10) = 0
            begin(0) = 0
            read(0, 1) = 0
            clock(1) = 10W+3
            tick(1, 1) = 0
            reading(1) = 1
            """);
    }

    private static void tickSaysMoreThan10Above() {
        String sentence = "or more than 10 above the reading of any other node";
        Quotes.promise(2, sentence, "10 above is none, 11 above is", """
            tick(0, 11) = -2
            tick(0, 10) = 0
            tick(1, 11) = -2
            tick(1, 10) = 0
            tick(2, 11) = -2
            tick(2, 10) = 0
            tick(3, 20) = 0
            tick(3, 21) = -2
            """);
        for (int behind = 0; behind < 4; behind++) {
            int ticking = (behind + 1) % 4;
            String others = "";
            for (int node = 0; node < 4; node++) {
                others += node == behind ? "" : "tick(" + node + ", 10) = 0\n";
            }
            Quotes.promise(2, sentence, "node " + behind + " alone holds node " + ticking + " back", others
                + "tick(" + ticking + ", 11) = -2\n"
                + "tick(" + behind + ", 1) = 0\n"
                + "tick(" + ticking + ", 12) = -2\n"
                + "tick(" + ticking + ", 11) = 0\n");
        }
        Quotes.promise(2, sentence, "the node's own reading is not that of another", """
            tick(1, 10) = 0
            tick(2, 10) = 0
            tick(3, 10) = 0
            tick(0, 20) = 0
            reading(0) = 20
            """);
        Quotes.promise(2, sentence, "as far above as can be, where a difference or a product wraps around", """
            tick(0, MAX) = -2
            tick(0, MAX-1) = -2
            tick(1, 4096) = -2
            tick(2, 65536) = -2
            tick(3, 1073741824) = -2
            clock(0) = 0
            clock(3) = 0
            """);
        Quotes.promise(2, sentence, "others' readings, though their clocks may be ahead", """
            tick(0, 10) = 0
            begin(0) = 0
            read(0, 1) = 0
            read(0, 2) = 0
            read(0, 3) = 0
            tick(0, 11) = -2
            """);
    }

    private static void tickRefusesWithoutAChange() {
        String sentence = "with these nothing changes";
        String before = """
            tick(0, 4) = 0
            tick(2, 9) = 0
            begin(2) = 0
            write(0, 3, 5) = 0
            remember()
            """;
        Quotes.promise(2, sentence, "-1", before + Quotes.outside(4, "tick(#, 5) = -1") + "same()");
        Quotes.promise(2, sentence, "-2 below", before + "tick(0, 3) = -2\n tick(2, 8) = -2\n tick(1, -1) = -2\n same()");
        Quotes.promise(2, sentence, "-2 above", before + "tick(0, 11) = -2\n tick(2, 11) = -2\n tick(3, 15) = -2\n same()");
    }

    private static void tickIsAnEvent() {
        String sentence = "The node's physical clock shows this reading now, then there is an event at the node: 0.";
        Quotes.promise(2, sentence, "the same reading again is an event too", """
            tick(3, 0) = 0
            clock(3) = 1
            tick(3, 0) = 0
            clock(3) = 2
            tick(3, 1) = 0
            clock(3) = 1W
            tick(3, 1) = 0
            clock(3) = 1W+1
            """);
        Quotes.promise(2, sentence, "the event is behind the reading and counts the new one", """
            tick(1, 10) = 0
            clock(1) = 10W
            reading(1) = 10
            clock(0) = 0
            clock(2) = 0
            """);
        Quotes.term(2, "its clock becomes the greater of these two: the greater of its clock and m, plus 1; "
            + "its reading times 1048576.", "a clock ahead of its reading, behind it, and just at it", """
            tick(1, 2) = 0
            begin(1) = 0
            read(0, 0) = 0
            clock(0) = 2W+3
            tick(0, 1) = 0
            clock(0) = 2W+4
            tick(0, 2) = 0
            clock(0) = 2W+5
            tick(0, 3) = 0
            clock(0) = 3W
            tick(0, 3) = 0
            clock(0) = 3W+1
            """);
    }

    private static void readingsStayTogether() {
        Quotes.term(2, "the four may differ by at most 10 units", "10, and no more, whichever is the least", """
            tick(0, 10) = 0
            tick(1, 3) = 0
            tick(2, 7) = 0
            tick(0, 11) = -2
            tick(3, 2) = 0
            tick(0, 12) = 0
            tick(0, 13) = -2
            tick(3, 5) = 0
            tick(0, 13) = 0
            tick(0, 14) = -2
            """);
        Quotes.term(2, "A READING is what a physical clock shows, an int from 0 on.", "0 and below", """
            tick(0, 0) = 0
            reading(0) = 0
            tick(0, -1) = -2
            reading(0) = 0
            """);
    }

    private static void reading() {
        String sentence = "The node's reading; -1 node not 0 .. 3.";
        Quotes.promise(3, sentence, "too small, too large", Quotes.outside(4, "reading(#) = -1"));
        Quotes.promise(3, sentence, "too small, too large, behind a tick of every node",
            "tickAll(7)\n" + Quotes.outside(4, "reading(#) = -1"));
        Quotes.promise(3, sentence, "every node has its own, the least and the greatest node too", """
            tick(0, 1) = 0
            tick(1, 2) = 0
            tick(2, 3) = 0
            tick(3, 4) = 0
            reading(0) = 1
            reading(1) = 2
            reading(2) = 3
            reading(3) = 4
            """);
        Quotes.promise(3, sentence, "asking changes nothing", """
            tick(0, 1) = 0
            remember()
            reading(0) = 1
            reading(3) = 0
            reading(4) = -1
            same()
            """);
    }

    private static void clock() {
        String sentence = "The node's clock; -1 node not 0 .. 3.";
        Quotes.promise(4, sentence, "too small, too large", Quotes.outside(4, "clock(#) = -1"));
        Quotes.promise(4, sentence, "too small, too large, behind a tick of every node",
            "tickAll(7)\n" + Quotes.outside(4, "clock(#) = -1"));
        Quotes.promise(4, sentence, "every node has its own, the least and the greatest node too", """
            tick(0, 1) = 0
            tick(1, 2) = 0
            tick(2, 3) = 0
            tick(3, 4) = 0
            clock(0) = 1W
            clock(1) = 2W
            clock(2) = 3W
            clock(3) = 4W
            """);
        Quotes.promise(4, sentence, "asking changes nothing", """
            tick(0, 1) = 0
            remember()
            clock(0) = 1W
            clock(3) = 0
            clock(4) = -1
            same()
            """);
        Quotes.term(4, "no node's hybrid clock strays from its physical clock by more than 10 units",
            "10 units, and not more, where readings are as far apart as can be", """
            tick(0, 10) = 0
            begin(0) = 0
            read(0, 3) = 0
            reading(3) = 0
            clock(3) = 10W+3
            tick(0, 11) = -2
            read(0, 3) = 0
            clock(3) = 10W+6
            """);
    }
}
