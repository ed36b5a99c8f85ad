import java.io.IOException;
import java.lang.reflect.Method;
import java.nio.file.Files;
import java.nio.file.Path;
import java.util.HashSet;
import java.util.Set;
import java.util.TreeSet;
import java.util.regex.Matcher;
import java.util.regex.Pattern;

/** README.md says how the class is used: its example works, and its lists have every call and no other code. */
public final class ReadmeTest {
    private static final Set<Integer> CODES = Set.of(1, -1, -2, -3, -4, -5, -6, -7, -8, -9);
    private static final Pattern NUMBER = Pattern.compile("-?\\d+");

    public static void main(String[] args) throws IOException {
        String readme = Files.readString(Path.of("README.md"));
        exampleIsTheOneBelow(readme);
        exampleWorks();
        everyCallHasARow(readme);
        everyCodeHasARow(readme);
        everyTestHasARow(readme);
        Checks.end();
    }

    // README's example: the lines from here to the mark below are the same there.
    static int addOne(HlcStore store, int slot, int key) {
        int code = 1;
        for (int tries = 0; tries < 100 && code == 1; tries++) {
            long value = store.read(slot, key);
            code = value > Integer.MAX_VALUE ? (int) (value - 4294967296L) : 0;
            if (code == 0) {
                code = store.write(slot, key, (int) value + 1);
            }
            if (code == 0) {
                code = store.commit(slot);
            }
        }
        return code;
    }

    static long addOneTwice() {
        HlcStore store = new HlcStore();
        store.tick(0, 5);                // the physical clock of node 0 shows 5 now
        int first = store.begin(0);      // a transaction whose gateway is node 0
        int second = store.begin(2);     // and one at another node, at the same time
        addOne(store, first, 3);
        addOne(store, second, 3);        // restarts once, for it has to see what the first one wrote
        store.clean(first);              // the slots are free again
        store.clean(second);
        int third = store.begin(1);
        long value = store.read(third, 3);
        while (value == 4294967297L) {   // the code 1: here the read is all there is to do again
            value = store.read(third, 3);
        }
        return value;                    // 2
    }
    // The mark below.

    private static void exampleIsTheOneBelow(String readme) throws IOException {
        String source = Files.readString(Path.of("src/test/java/ReadmeTest.java"));
        int from = source.indexOf("    static int addOne(");
        String example = source.substring(from, source.indexOf("    // The mark below.")).replaceAll("(?m)^    ", "");
        isTrue("README has the example that is tested", readme.contains("```java\n" + example + "```\n"));
    }

    private static void exampleWorks() {
        Checks.run("the example, call by call", """
            tick(0, 5) = 0
            begin(0) = 0
            begin(2) = 1
            read(0, 3) = 0
            write(0, 3, 1) = 0
            commit(0) = 0
            read(1, 3) = C+1
            read(1, 3) = 1
            write(1, 3, 2) = 0
            commit(1) = 0
            clean(0) = 0
            clean(1) = 0
            begin(1) = 0
            read(0, 3) = C+1
            read(0, 3) = 2
            """);
        Checks.due("addOneTwice()", addOneTwice(), 2);
        HlcStore store = new HlcStore();
        Checks.due("addOne in a free slot", addOne(store, 0, 3), -4);
        Checks.due("addOne of no key", addOne(store, store.begin(0), 16), -1);
    }

    private static void everyCallHasARow(String readme) {
        for (Method method : HlcStore.class.getDeclaredMethods()) {
            Matcher row = Pattern.compile("\\| `" + method.getName() + "\\(([^)]*)\\)` \\|.*\\| ([^|]*) \\|\n").matcher(readme);
            boolean isCall = java.lang.reflect.Modifier.isPublic(method.getModifiers());
            boolean found = row.find();
            isTrue(method.getName() + " has a row if it is public", found == isCall);
            if (found) {
                Checks.due("arguments of " + method.getName(), row.group(1).split(", ").length, method.getParameterCount());
                isTrue("codes of " + method.getName(), CODES.containsAll(numbers(row.group(2))));
            }
        }
    }

    private static void everyCodeHasARow(String readme) {
        Set<Integer> found = new HashSet<>();
        Matcher row = Pattern.compile("(?m)^\\| (-?\\d+) \\|").matcher(readme);
        while (row.find()) {
            found.add(Integer.parseInt(row.group(1)));
        }
        isTrue("codes explained are " + new TreeSet<>(found), found.equals(CODES));
    }

    private static void everyTestHasARow(String readme) throws IOException {
        try (var files = Files.list(Path.of("src/test/java"))) {
            for (Path file : (Iterable<Path>) files::iterator) {
                String name = file.getFileName().toString().replace(".java", "");
                isTrue("README tells of " + name, readme.contains("`" + name + "`"));
            }
        }
    }

    private static Set<Integer> numbers(String text) {
        Set<Integer> numbers = new HashSet<>();
        Matcher number = NUMBER.matcher(text);
        while (number.find()) {
            numbers.add(Integer.parseInt(number.group()));
        }
        return numbers;
    }

    private static void isTrue(String what, boolean holds) {
        Checks.due(what, holds ? 1 : 0, 1);
    }
}
