import java.util.ArrayList;
import java.util.List;
import java.util.Random;

/** The same calls always give the same answers, whatever is done with other objects meanwhile. */
public final class SameAnswersTest {
    private static final int RUNS = 200;
    private static final int CALLS = 512;

    public static void main(String[] args) {
        for (int seed = 1; seed <= RUNS; seed++) {
            besideAnother(seed);
        }
        Checks.end();
    }

    /** Each answer of two stores used in turns must be what the store answers that is used alone. */
    private static void besideAnother(int seed) {
        List<String> calls = calls(2 * seed);
        List<String> otherCalls = calls(2 * seed + 1);
        List<Long> alone = answers(calls);
        List<Long> otherAlone = answers(otherCalls);
        HlcStore store = new HlcStore();
        HlcStore other = new HlcStore();
        for (int i = 0; i < CALLS; i++) {
            String at = "seed " + seed + ", call " + i + " beside another store: ";
            Checks.due(at + calls.get(i), Checks.answer(store, calls.get(i)), alone.get(i));
            Checks.due(at + otherCalls.get(i), Checks.answer(other, otherCalls.get(i)), otherAlone.get(i));
        }
    }

    private static List<Long> answers(List<String> calls) {
        HlcStore store = new HlcStore();
        List<Long> answers = new ArrayList<>();
        for (String call : calls) {
            answers.add(Checks.answer(store, call));
        }
        return answers;
    }

    private static List<String> calls(int seed) {
        Random random = new Random(seed);
        List<String> calls = new ArrayList<>();
        for (int i = 0; i < CALLS; i++) {
            calls.add(call(random, i));
        }
        return calls;
    }

    private static String call(Random random, int i) {
        int node = random.nextInt(4);
        int slot = random.nextInt(4);
        int key = random.nextInt(4);
        switch (random.nextInt(16)) {
            case 0: return "tick(" + node + ", " + (i / 4 + random.nextInt(10)) + ")";
            case 1: return "reading(" + node + ")";
            case 2: return "clock(" + node + ")";
            case 3: case 4: return "begin(" + node + ")";
            case 5: case 6: return "read(" + slot + ", " + key + ")";
            case 7: case 8: return "write(" + slot + ", " + key + ", " + i + ")";
            case 9: return "commit(" + slot + ")";
            case 10: return random.nextInt(4) == 0 ? "abort(" + slot + ")" : "heartbeat(" + slot + ")";
            case 11: return "clean(" + slot + ")";
            case 12: return "state(" + slot + ")";
            case 13: return "stamp(" + slot + ")";
            case 14: return "versions(" + key + ")";
            default: return "committed(" + random.nextInt(20) + ")";
        }
    }
}
