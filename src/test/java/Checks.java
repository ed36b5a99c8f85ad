import java.util.ArrayList;
import java.util.LinkedHashMap;
import java.util.List;
import java.util.Map;

/** Runs scripts of calls on fresh stores and counts the answers that are not the due ones. */
final class Checks {
    private static final int MOST_CALLS = 512;
    private static int wrong = 0;
    private static int looked = 0;

    private Checks() {
    }

    static void due(String what, long got, long want) {
        looked++;
        if (got != want) {
            wrong++;
            System.out.println(what + " answered " + got + ", due is " + want);
        }
    }

    /**
     * A script has a call a line, "write(0, 3, -7) = 0". In numbers, 5W is 5 * 1048576 (a wall part),
     * C is 4294967296 (the base of read's codes), MAX and MIN are the greatest and the least int.
     * The line "tickAll(r)" brings all nodes to reading r in steps that are allowed. The line "remember()"
     * asks for all that can be asked without a change, and "same()" finds all of it as it was then.
     */
    static void run(String title, String script) {
        HlcStore store = new HlcStore();
        Map<String, Long> remembered = Map.of();
        int calls = 0;
        for (String line : script.split("\n")) {
            String row = line.trim();
            if (row.isEmpty()) {
                continue;
            }
            if (row.startsWith("tickAll(")) {
                calls += tickAll(title, store, (int) arguments(row)[0]);
            } else if (row.equals("remember()")) {
                remembered = askAll(store);
                calls += remembered.size();
            } else if (row.equals("same()")) {
                Map<String, Long> now = askAll(store);
                calls += now.size();
                remembered.forEach((call, answer) -> due(title + ": " + call + " again", now.get(call), answer));
            } else {
                int equals = row.lastIndexOf('=');
                String call = row.substring(0, equals).trim();
                calls++;
                due(title + ": call " + calls + ": " + call, answer(store, call), number(row.substring(equals + 1)));
            }
        }
        if (calls > MOST_CALLS) {
            throw new IllegalStateException(title + ": more calls than an object is used for");
        }
    }

    static void fail(String what) {
        looked++;
        wrong++;
        System.out.println(what);
    }

    static void end() {
        System.out.println(looked + " answers looked at, " + wrong + " not as due");
        if (wrong != 0) {
            System.exit(1);
        }
    }

    private static int tickAll(String title, HlcStore store, int target) {
        int calls = 0;
        int least = Integer.MAX_VALUE;
        for (int node = 0; node < 4; node++) {
            least = Math.min(least, store.reading(node));
            calls++;
        }
        while (least < target) {
            least = Math.min(target, least + 10);
            for (int node = 0; node < 4; node++) {
                int reading = Math.max(least, store.reading(node));
                due(title + ": tick(" + node + ", " + reading + ")", store.tick(node, reading), 0);
                calls += 2;
            }
        }
        return calls;
    }

    private static Map<String, Long> askAll(HlcStore store) {
        Map<String, Long> answers = new LinkedHashMap<>();
        for (int node = 0; node < 4; node++) {
            answers.put("reading(" + node + ")", (long) store.reading(node));
            answers.put("clock(" + node + ")", store.clock(node));
        }
        for (int slot = 0; slot < 8; slot++) {
            answers.put("state(" + slot + ")", (long) store.state(slot));
            answers.put("stamp(" + slot + ")", store.stamp(slot));
        }
        for (int key = 0; key < 16; key++) {
            answers.put("versions(" + key + ")", (long) store.versions(key));
        }
        for (int n = 0; n < 4; n++) {
            answers.put("committed(" + n + ")", store.committed(n));
        }
        return answers;
    }

    /** The answer to a call that is written as in a script. */
    static long answer(HlcStore store, String call) {
        long[] a = arguments(call);
        String name = call.substring(0, call.indexOf('('));
        switch (name + "/" + a.length) {
            case "tick/2": return store.tick((int) a[0], (int) a[1]);
            case "reading/1": return store.reading((int) a[0]);
            case "clock/1": return store.clock((int) a[0]);
            case "begin/1": return store.begin((int) a[0]);
            case "read/2": return store.read((int) a[0], (int) a[1]);
            case "write/3": return store.write((int) a[0], (int) a[1], (int) a[2]);
            case "commit/1": return store.commit((int) a[0]);
            case "abort/1": return store.abort((int) a[0]);
            case "heartbeat/1": return store.heartbeat((int) a[0]);
            case "clean/1": return store.clean((int) a[0]);
            case "state/1": return store.state((int) a[0]);
            case "stamp/1": return store.stamp((int) a[0]);
            case "versions/1": return store.versions((int) a[0]);
            case "committed/1": return store.committed((int) a[0]);
            default: throw new IllegalArgumentException("no such call: " + call);
        }
    }

    private static long[] arguments(String call) {
        String inside = call.substring(call.indexOf('(') + 1, call.lastIndexOf(')'));
        List<Long> numbers = new ArrayList<>();
        for (String part : inside.split(",")) {
            numbers.add(number(part));
        }
        return numbers.stream().mapToLong(Long::longValue).toArray();
    }

    private static long number(String text) {
        String bare = text.replace(" ", "");
        long sum = 0;
        for (String term : bare.split("(?=[+-])")) {
            boolean negative = term.startsWith("-");
            String size = negative || term.startsWith("+") ? term.substring(1) : term;
            sum += negative ? -term(size) : term(size);
        }
        return sum;
    }

    private static long term(String size) {
        switch (size) {
            case "C": return 4294967296L;
            case "MAX": return Integer.MAX_VALUE;
            case "MIN": return Integer.MIN_VALUE;
            default: break;
        }
        if (size.endsWith("W")) {
            return Long.parseLong(size.substring(0, size.length() - 1)) * 1048576L;
        }
        return Long.parseLong(size);
    }
}
