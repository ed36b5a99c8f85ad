/** A store on four nodes whose transactions are ordered by hybrid clocks. */
public final class HlcStore {
    private static final int NODES = 4;
    private static final int KEYS = 16;
    private static final int SLOTS = 8;
    private static final int VERSIONS_PER_KEY = 16;
    /** Each commit needs a begin of its own, so 512 calls hold at most this many. */
    private static final int MOST_COMMITS = 256;

    private static final int MOST_DRIFT = 10;
    private static final int MOST_SILENCE = 40;
    private static final long WALL_UNIT = 1048576L;

    private static final int FREE = 0;
    private static final int PENDING = 1;
    private static final int COMMITTED = 2;
    private static final int ABORTED = 3;

    private static final int DONE = 0;
    private static final int DO_AGAIN = 1;
    private static final int OUT_OF_RANGE = -1;
    private static final int BAD_READING = -2;
    private static final int NO_FREE_SLOT = -3;
    private static final int SLOT_IS_FREE = -4;
    private static final int TRY_LATER = -5;
    private static final int IS_ABORTED = -6;
    private static final int KEY_IS_FULL = -7;
    private static final int IS_COMMITTED = -8;
    private static final int IS_PENDING = -9;

    /** Lifts the codes of read out of the range of the values, which are ints. */
    private static final long READ_CODE_BASE = 4294967296L;
    /** Below every stamp and every index. */
    private static final int NONE = -1;

    private final Node[] nodes;
    private final Key[] keys;
    private final Transaction[] slots;
    private final long[] commitStamps;
    private int commits;
    private int begins;

    public HlcStore() {
        nodes = new Node[NODES];
        for (int i = 0; i < NODES; i++) {
            nodes[i] = new Node();
        }
        keys = new Key[KEYS];
        for (int i = 0; i < KEYS; i++) {
            keys[i] = new Key(1 << i, nodes[i % NODES]);
        }
        slots = new Transaction[SLOTS];
        for (int i = 0; i < SLOTS; i++) {
            slots[i] = new Transaction(nodes[0]);
        }
        commitStamps = new long[MOST_COMMITS];
    }

    public int tick(int node, int reading) {
        Node ticking = nodeAt(node);
        if (ticking == null) {
            return OUT_OF_RANGE;
        }
        if (reading < ticking.reading || runsAhead(ticking, reading)) {
            return BAD_READING;
        }
        ticking.reading = reading;
        ticking.haveEvent();
        return DONE;
    }

    public int reading(int node) {
        Node asked = nodeAt(node);
        return asked == null ? OUT_OF_RANGE : asked.reading;
    }

    public long clock(int node) {
        Node asked = nodeAt(node);
        return asked == null ? OUT_OF_RANGE : asked.clock;
    }

    public int begin(int node) {
        Node gateway = nodeAt(node);
        if (gateway == null) {
            return OUT_OF_RANGE;
        }
        int slot = leastFreeSlot();
        if (slot == NONE) {
            return NO_FREE_SLOT;
        }
        gateway.haveEvent();
        slots[slot].start(gateway, begins);
        begins++;
        return slot;
    }

    public long read(int slot, int key) {
        Transaction reader = transactionAt(slot);
        Key wanted = keyAt(key);
        if (reader == null || wanted == null) {
            return READ_CODE_BASE + OUT_OF_RANGE;
        }
        int code = reader.takeStoppingCode();
        if (code != DONE) {
            return READ_CODE_BASE + code;
        }
        reader.gateway.haveEvent();
        wanted.owner.takeIn(reader.gateway.clock);
        long answer = readAtOwner(reader, wanted);
        reader.gateway.takeIn(wanted.owner.clock);
        return answer;
    }

    public int write(int slot, int key, int value) {
        Transaction writer = transactionAt(slot);
        Key wanted = keyAt(key);
        if (writer == null || wanted == null) {
            return OUT_OF_RANGE;
        }
        int code = writer.takeStoppingCode();
        if (code != DONE) {
            return code;
        }
        writer.gateway.haveEvent();
        wanted.owner.takeIn(writer.gateway.clock);
        int answer = writeAtOwner(writer, wanted, value);
        writer.gateway.takeIn(wanted.owner.clock);
        return answer;
    }

    public int commit(int slot) {
        Transaction ending = transactionAt(slot);
        if (ending == null) {
            return OUT_OF_RANGE;
        }
        int code = ending.takeStoppingCode();
        if (code != DONE) {
            return code;
        }
        ending.gateway.haveEvent();
        if (ending.writeStamp > ending.readStamp && !moveReadsToWriteStamp(ending)) {
            restart(ending, 0L);
            return DO_AGAIN;
        }
        ending.readStamp = ending.writeStamp;
        ending.state = COMMITTED;
        logCommit(ending.writeStamp);
        return DONE;
    }

    public int abort(int slot) {
        Transaction ending = transactionAt(slot);
        if (ending == null) {
            return OUT_OF_RANGE;
        }
        int code = ending.codeOfState();
        if (code == DONE) {
            ending.state = ABORTED;
        }
        return code;
    }

    public int heartbeat(int slot) {
        Transaction beating = transactionAt(slot);
        if (beating == null) {
            return OUT_OF_RANGE;
        }
        int code = beating.codeOfState();
        if (code == DONE) {
            beating.gateway.haveEvent();
            beating.lastBeat = beating.gateway.reading;
        }
        return code;
    }

    public int clean(int slot) {
        Transaction ended = transactionAt(slot);
        if (ended == null) {
            return OUT_OF_RANGE;
        }
        if (ended.state == FREE) {
            return SLOT_IS_FREE;
        }
        if (ended.state == PENDING) {
            return IS_PENDING;
        }
        for (Key key : keys) {
            if (key.holder == ended) {
                key.owner.takeIn(ended.gateway.clock);
                key.settleIntent();
            }
        }
        ended.state = FREE;
        return DONE;
    }

    public int state(int slot) {
        Transaction asked = transactionAt(slot);
        return asked == null ? OUT_OF_RANGE : asked.state;
    }

    public long stamp(int slot) {
        Transaction asked = transactionAt(slot);
        if (asked == null || asked.state == FREE || asked.state == ABORTED) {
            return NONE;
        }
        return asked.readStamp;
    }

    public int versions(int key) {
        Key asked = keyAt(key);
        return asked == null ? OUT_OF_RANGE : asked.count;
    }

    public long committed(int n) {
        return n < 0 || n >= commits ? NONE : commitStamps[n];
    }

    private Node nodeAt(int node) {
        return node < 0 || node >= NODES ? null : nodes[node];
    }

    private Key keyAt(int key) {
        return key < 0 || key >= KEYS ? null : keys[key];
    }

    private Transaction transactionAt(int slot) {
        return slot < 0 || slot >= SLOTS ? null : slots[slot];
    }

    private int leastFreeSlot() {
        for (int i = 0; i < SLOTS; i++) {
            if (slots[i].state == FREE) {
                return i;
            }
        }
        return NONE;
    }

    /** The difference can't overflow: it is only asked for readings of 0 and more. */
    private boolean runsAhead(Node ticking, int reading) {
        for (Node other : nodes) {
            if (other != ticking && reading - other.reading > MOST_DRIFT) {
                return true;
            }
        }
        return false;
    }

    private long readAtOwner(Transaction reader, Key key) {
        if (key.holder == reader) {
            return key.intentValue;
        }
        Transaction inTheWay = lookUp(key, reader);
        if (inTheWay != null) {
            inTheWay.pushWriteStampAbove(reader.readStamp);
        }
        long missed = key.greatestStampIn(reader.readStamp, reader.limit);
        if (missed != NONE) {
            restart(reader, missed);
            return READ_CODE_BASE + DO_AGAIN;
        }
        key.raiseReadMark(reader.readStamp);
        reader.keysRead |= key.bit;
        return key.valueAt(reader.readStamp);
    }

    private int writeAtOwner(Transaction writer, Key key, int value) {
        if (key.holder == writer) {
            key.intentValue = value;
            return DONE;
        }
        Transaction inTheWay = lookUp(key, writer);
        if (inTheWay != null) {
            if (inTheWay.place < writer.place) {
                return TRY_LATER;
            }
            restart(inTheWay, 0L);
            inTheWay.hurt = true;
        }
        if (key.count >= VERSIONS_PER_KEY) {
            return KEY_IS_FULL;
        }
        writer.pushWriteStampAbove(key.readMark);
        writer.pushWriteStampAbove(key.greatestStampIn(NONE, Long.MAX_VALUE));
        key.holder = writer;
        key.intentValue = value;
        return DONE;
    }

    /** Whether none of the keys read had changed; stops at the first that had. */
    private boolean moveReadsToWriteStamp(Transaction ending) {
        for (Key key : keys) {
            if ((ending.keysRead & key.bit) != 0 && !moveReadToWriteStamp(ending, key)) {
                return false;
            }
        }
        return true;
    }

    private static boolean moveReadToWriteStamp(Transaction ending, Key key) {
        key.owner.takeIn(ending.gateway.clock);
        Transaction inTheWay = lookUp(key, ending);
        if (inTheWay != null) {
            inTheWay.pushWriteStampAbove(ending.writeStamp);
        }
        boolean changed = key.greatestStampIn(ending.readStamp, ending.writeStamp) != NONE;
        if (!changed) {
            key.raiseReadMark(ending.writeStamp);
        }
        ending.gateway.takeIn(key.owner.clock);
        return !changed;
    }

    /** Looks the key up for a transaction: the one that stands in the way, or null. */
    private static Transaction lookUp(Key key, Transaction asking) {
        Transaction holder = key.holder;
        if (holder == null || holder == asking) {
            return null;
        }
        holder.gateway.takeIn(key.owner.clock);
        key.owner.takeIn(holder.gateway.clock);
        holder.abortIfSilent();
        if (holder.state == PENDING) {
            return holder;
        }
        key.settleIntent();
        return null;
    }

    private void restart(Transaction again, long at) {
        for (Key key : keys) {
            if (key.holder == again) {
                key.holder = null;
            }
        }
        again.moveTo(at);
    }

    private void logCommit(long writeStamp) {
        if (commits < MOST_COMMITS) {
            commitStamps[commits] = writeStamp;
            commits++;
        }
    }

    private static final class Node {
        private int reading;
        private long clock;

        private void takeIn(long stamp) {
            clock = Math.max(Math.max(clock, stamp) + 1L, reading * WALL_UNIT);
        }

        private void haveEvent() {
            takeIn(clock);
        }
    }

    private static final class Key {
        /** This key's place in a set of keys that is held as an int. */
        private final int bit;
        private final Node owner;
        private final long[] stamps;
        private final int[] values;
        private int count;
        private long readMark;
        /** The transaction that wrote the intent; null if there is no intent. */
        private Transaction holder;
        private int intentValue;

        private Key(int bit, Node owner) {
            this.bit = bit;
            this.owner = owner;
            stamps = new long[VERSIONS_PER_KEY];
            values = new int[VERSIONS_PER_KEY];
        }

        private void raiseReadMark(long stamp) {
            readMark = Math.max(readMark, stamp);
        }

        private long greatestStampIn(long above, long upTo) {
            int newest = newestIn(above, upTo);
            return newest == NONE ? NONE : stamps[newest];
        }

        private int valueAt(long stamp) {
            int newest = newestIn(NONE, stamp);
            return newest == NONE ? 0 : values[newest];
        }

        /** The index of the version with the greatest stamp above the one and not above the other. */
        private int newestIn(long above, long upTo) {
            int newest = NONE;
            long floor = above;
            for (int i = 0; i < count; i++) {
                if (stamps[i] > floor && stamps[i] <= upTo) {
                    floor = stamps[i];
                    newest = i;
                }
            }
            return newest;
        }

        /** Called when the holder has ended, so that its intent is either a version or nothing. */
        private void settleIntent() {
            if (holder != null && holder.state == COMMITTED) {
                addVersion(holder.writeStamp, intentValue);
            }
            holder = null;
        }

        private void addVersion(long stamp, int value) {
            if (count < VERSIONS_PER_KEY) {
                stamps[count] = stamp;
                values[count] = value;
                count++;
            }
        }
    }

    /** One for each slot, used again by every transaction that sits in it. */
    private static final class Transaction {
        private int state;
        /** In a free slot it stands for nothing, but it is never null. */
        private Node gateway;
        private int lastBeat;
        private int place;
        private long readStamp;
        private long writeStamp;
        private long limit;
        private int keysRead;
        private boolean hurt;

        private Transaction(Node gateway) {
            this.gateway = gateway;
        }

        private void start(Node node, int placeInBegins) {
            state = PENDING;
            gateway = node;
            lastBeat = node.reading;
            place = placeInBegins;
            readStamp = node.clock;
            writeStamp = node.clock;
            limit = (node.clock / WALL_UNIT + MOST_DRIFT) * WALL_UNIT + (WALL_UNIT - 1L);
            keysRead = 0;
            hurt = false;
        }

        private int codeOfState() {
            switch (state) {
                case PENDING:
                    return DONE;
                case COMMITTED:
                    return IS_COMMITTED;
                case ABORTED:
                    return IS_ABORTED;
                default:
                    return SLOT_IS_FREE;
            }
        }

        /** Takes the mark HURT away where that is the code. */
        private int takeStoppingCode() {
            int code = codeOfState();
            if (code == DONE && hurt) {
                hurt = false;
                return DO_AGAIN;
            }
            return code;
        }

        private void abortIfSilent() {
            if (state == PENDING && gateway.reading - lastBeat > MOST_SILENCE) {
                state = ABORTED;
            }
        }

        private void pushWriteStampAbove(long stamp) {
            writeStamp = Math.max(writeStamp, stamp + 1L);
        }

        /** The part of a restart that is in the transaction itself; its intents are with the keys. */
        private void moveTo(long stamp) {
            keysRead = 0;
            writeStamp = Math.max(writeStamp, stamp);
            readStamp = writeStamp;
            limit = Math.max(limit, readStamp);
        }
    }
}
