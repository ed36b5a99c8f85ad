import java.io.IOException;
import java.lang.reflect.Constructor;
import java.lang.reflect.Field;
import java.lang.reflect.Method;
import java.lang.reflect.Modifier;
import java.nio.file.Files;
import java.nio.file.Path;
import java.util.Set;
import java.util.TreeSet;
import java.util.regex.Matcher;
import java.util.regex.Pattern;

/** The public face, and those rules of LANGUAGE.md that a program can look at. */
public final class FaceTest {
    private static final Set<String> FACE = Set.of(
        "int tick(int, int)", "int reading(int)", "long clock(int)", "int begin(int)", "long read(int, int)",
        "int write(int, int, int)", "int commit(int)", "int abort(int)", "int heartbeat(int)", "int clean(int)",
        "int state(int)", "long stamp(int)", "int versions(int)", "long committed(int)");

    public static void main(String[] args) throws IOException {
        publicFace();
        theDocumentSaysThisFace();
        nothingElseIsVisible();
        noPrivateMethodBearsAPublicName();
        staticStateIsConstant();
        source();
        Checks.end();
    }

    private static void isTrue(String what, boolean holds) {
        Checks.due(what, holds ? 1 : 0, 1);
    }

    private static String signature(Method method) {
        StringBuilder text = new StringBuilder(method.getReturnType().getSimpleName());
        text.append(' ').append(method.getName()).append('(');
        Class<?>[] types = method.getParameterTypes();
        for (int i = 0; i < types.length; i++) {
            text.append(i == 0 ? "" : ", ").append(types[i].getSimpleName());
        }
        return text.append(')').toString();
    }

    private static void publicFace() {
        Set<String> found = new TreeSet<>();
        for (Method method : HlcStore.class.getDeclaredMethods()) {
            if (Modifier.isPublic(method.getModifiers())) {
                found.add(signature(method));
                isTrue(method + " is not static", !Modifier.isStatic(method.getModifiers()));
            }
        }
        isTrue("the face is " + new TreeSet<>(FACE) + ", found " + found, found.equals(FACE));
        isTrue("the class is public", Modifier.isPublic(HlcStore.class.getModifiers()));
        isTrue("the class is final", Modifier.isFinal(HlcStore.class.getModifiers()));
        Constructor<?>[] constructors = HlcStore.class.getDeclaredConstructors();
        isTrue("one constructor", constructors.length == 1);
        isTrue("it is public", Modifier.isPublic(constructors[0].getModifiers()));
        isTrue("it takes nothing", constructors[0].getParameterCount() == 0);
    }

    /** So that the list above is not only what was once typed off. */
    private static void theDocumentSaysThisFace() {
        String section = Quotes.section("The public face");
        if (section.isEmpty()) {
            return;
        }
        Set<String> said = new TreeSet<>();
        Matcher method = Pattern.compile("public (int|long) (\\w+)\\(([^)]*)\\);").matcher(section);
        while (method.find()) {
            String types = method.group(3).replaceAll("(\\w+) \\w+", "$1");
            said.add(method.group(1) + " " + method.group(2) + "(" + types + ")");
        }
        isTrue("the document's face is " + said + ", tested is " + new TreeSet<>(FACE), said.equals(FACE));
        isTrue("the document names nothing else", section.split(";", -1).length - 1 == said.size() + 1);
        isTrue("but the class and its constructor",
            section.contains("public final class HlcStore {") && section.contains("public HlcStore();"));
    }

    private static void nothingElseIsVisible() {
        for (Method method : HlcStore.class.getDeclaredMethods()) {
            isTrue(method + " is in the face or private",
                FACE.contains(signature(method)) || Modifier.isPrivate(method.getModifiers()));
        }
        for (Field field : HlcStore.class.getDeclaredFields()) {
            isTrue(field + " is private", Modifier.isPrivate(field.getModifiers()));
        }
        for (Class<?> inside : HlcStore.class.getDeclaredClasses()) {
            int modifiers = inside.getModifiers();
            isTrue(inside + " is static", Modifier.isStatic(modifiers));
            isTrue(inside + " is not public", !Modifier.isPublic(modifiers) && !Modifier.isProtected(modifiers));
        }
    }

    private static void noPrivateMethodBearsAPublicName() {
        for (Class<?> owner : withClassesInside()) {
            for (Method method : owner.getDeclaredMethods()) {
                boolean named = FACE.stream().anyMatch(f -> f.contains(" " + method.getName() + "("));
                isTrue(method + " bears a name of its own", !named || Modifier.isPublic(method.getModifiers()));
                isTrue(method + " takes at most seven", method.getParameterCount() <= 7);
            }
        }
    }

    private static void staticStateIsConstant() {
        for (Class<?> owner : withClassesInside()) {
            int fields = 0;
            for (Field field : owner.getDeclaredFields()) {
                boolean isStatic = Modifier.isStatic(field.getModifiers());
                isTrue(field + " is final if static", !isStatic || Modifier.isFinal(field.getModifiers()));
                fields += isStatic ? 0 : 1;
            }
            isTrue(owner + " has at most twenty fields", fields <= 20);
        }
    }

    private static Set<Class<?>> withClassesInside() {
        Set<Class<?>> all = new java.util.HashSet<>(Set.of(HlcStore.class.getDeclaredClasses()));
        all.add(HlcStore.class);
        return all;
    }

    private static void source() throws IOException {
        String source = Files.readString(Path.of("src/main/java/HlcStore.java"));
        String code = source.replaceAll("(?s)/\\*.*?\\*/", " ").replaceAll("//[^\n]*", " ");
        String[] forbidden = {
            "throw", "throws", "try", "catch", "finally", "synchronized", "assert", "import", "package",
            "System", "Thread", "Random", "equals", "hashCode", "toString", "native", "volatile"
        };
        for (String word : forbidden) {
            isTrue("no " + word, !Pattern.compile("\\b" + word + "\\b").matcher(code).find());
        }
        isTrue("no lambda", !code.contains("->"));
        isTrue("no method reference", !code.contains("::"));
        isTrue("no text joined by +, for there are no texts", !code.contains("\""));
        isTrue("no endless loop", !code.contains("while") && !code.contains("for (;;)"));
        isTrue("objects are made by constructors alone", !withoutConstructors(code).contains("new "));
        isTrue("plain characters", code.chars().allMatch(c -> c < 128));
    }

    /** All calls of a run live in one room, so a call must not make objects. */
    private static String withoutConstructors(String code) {
        return code.replaceAll("(?m)^( +)(?:public|private) [A-Z]\\w*\\([^)]*\\) \\{\\n(?s:.*?)^\\1\\}$", "");
    }
}
