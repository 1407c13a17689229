import java.io.IOException;
import java.lang.reflect.Constructor;
import java.lang.reflect.Field;
import java.lang.reflect.Method;
import java.lang.reflect.Modifier;
import java.nio.file.Files;
import java.nio.file.Path;
import java.util.ArrayList;
import java.util.Arrays;
import java.util.HashSet;
import java.util.List;
import java.util.Set;
import java.util.stream.Collectors;

/** The face of the class, and what LANGUAGE.md asks that can be seen without running it. */
public final class LanguageTest {
    private static final Path SOURCE = Path.of("src/main/java/PegField.java");
    private static final Set<String> FACE = Set.of(
        "int letter(int)", "int blank()", "int fault()", "int board()", "int peg(int,int)", "int as(int,int)",
        "int place(int,int)", "int jump(int,int)", "int put(int,int)", "int plug(int)", "int bore(int)",
        "int be(int,int)", "int courses(int)", "int wins(int)", "int add()", "int mean()",
        "int see(int,int,boolean)", "int forget()", "int runs(int,int,int)", "int image()", "int restore()",
        "int count(int)", "long digest()");
    private static final Set<String> CONSTANTS = Set.of("NONE", "UNKNOWN", "OUTSIDE", "STATE", "FULL");

    private static final Due due = new Due();

    public static void main(String[] args) throws IOException {
        face();
        for (Class<?> inside : PegField.class.getDeclaredClasses()) {
            due.is(inside + " is static", bit(Modifier.isStatic(inside.getModifiers())), 1);
            due.is(inside + " is hidden", bit(Modifier.isPublic(inside.getModifiers())), 0);
            membersOf(inside);
        }
        membersOf(PegField.class);
        due.is("few classes", bit(PegField.class.getDeclaredClasses().length <= 11), 1);
        List<String> lines = Files.readAllLines(SOURCE);
        words(lines);
        room(lines);
        methodLengths(lines);
        due.end();
    }

    private static int bit(boolean is) {
        return is ? 1 : 0;
    }

    private static void face() {
        due.is("public and final", bit((PegField.class.getModifiers() & 0xFFFF)
            == (PegField.class.getModifiers() | Modifier.PUBLIC | Modifier.FINAL)), 1);
        Set<String> methods = new HashSet<>();
        for (Method method : PegField.class.getDeclaredMethods()) {
            if (!Modifier.isPrivate(method.getModifiers())) {
                String types = Arrays.stream(method.getParameterTypes()).map(Class::getName)
                    .collect(Collectors.joining(","));
                methods.add(method.getReturnType().getName() + " " + method.getName() + "(" + types + ")");
                due.is(method + " is public", bit(Modifier.isPublic(method.getModifiers())), 1);
                due.is(method + " is no static one", bit(Modifier.isStatic(method.getModifiers())), 0);
            }
        }
        due.is("the face: " + methods, bit(methods.equals(FACE)), 1);
        Set<String> fields = new HashSet<>();
        for (Field field : PegField.class.getDeclaredFields()) {
            if (!Modifier.isPrivate(field.getModifiers())) {
                fields.add(field.getName());
            }
        }
        due.is("the constants: " + fields, bit(fields.equals(CONSTANTS)), 1);
        Constructor<?>[] constructors = PegField.class.getDeclaredConstructors();
        due.is("constructors", constructors.length, 1);
        due.is("it is public", bit(Modifier.isPublic(constructors[0].getModifiers())), 1);
        due.is("its parameters", constructors[0].getParameterCount(), 0);
    }

    private static void membersOf(Class<?> type) {
        int own = 0;
        for (Field field : type.getDeclaredFields()) {
            if (Modifier.isStatic(field.getModifiers())) {
                due.is(field + " is final", bit(Modifier.isFinal(field.getModifiers())), 1);
            } else {
                own++;
            }
        }
        due.is(type + " has few fields", bit(own <= 20), 1);
        Set<String> names = FACE.stream().map(each -> each.replaceAll(".* |\\(.*", "")).collect(Collectors.toSet());
        for (Method method : type.getDeclaredMethods()) {
            due.is(method + " has few parameters", bit(method.getParameterCount() <= 7), 1);
            boolean isFace = type == PegField.class && Modifier.isPublic(method.getModifiers());
            due.is(method + " has a name of its own", bit(isFace || !names.contains(method.getName())), 1);
        }
    }

    private static void words(List<String> lines) {
        String code = lines.stream().map(line -> line.replaceAll("//.*|/\\*\\*.*", "")).collect(Collectors.joining("\n"));
        String[] without = {
            "\\bimport\\b", "\\bpackage\\b", "\\btry\\b", "\\bcatch\\b", "\\bfinally\\b", "\\bthrow\\b", "\\bthrows\\b",
            "\\bsynchronized\\b", "\\bassert\\b", "\\brecord\\b", "->", "::", "\\bfloat\\b", "\\bdouble\\b",
            "\\bSystem\\b", "\\bThread\\b", "\\bRandom\\b", "\\bexact", "Exact\\b", "\\bprotected\\b", "\"", "[^\\x00-\\x7F]"
        };
        for (String word : without) {
            due.is("without " + word, code.split(word, -1).length - 1, 0);
        }
    }

    /** All that is made is made with the object: no call makes anything. */
    private static void room(List<String> lines) {
        for (String line : lines) {
            if (line.contains("new ") && !line.trim().startsWith("//")) {
                boolean isMadeAtFirst = line.contains("private final") || line.contains("outcomes[depth] = new Outcome()");
                due.is("made with the object: " + line.trim(), bit(isMadeAtFirst), 1);
            }
        }
    }

    private static void methodLengths(List<String> lines) {
        List<Integer> starts = new ArrayList<>();
        for (int index = 0; index < lines.size(); index++) {
            String line = lines.get(index);
            if (line.matches(" {4,8}[\\w\\[\\] ]+\\(.*\\) \\{") && !line.trim().matches("(if|for|while|switch)\\b.*")) {
                starts.add(index);
            }
        }
        due.is("methods were found", bit(starts.size() > 40), 1);
        for (int start : starts) {
            String indent = lines.get(start).replaceAll("\\S.*", "");
            int end = start;
            while (!lines.get(end).equals(indent + "}")) {
                end++;
            }
            due.is("short: " + lines.get(start).trim(), bit(end - start < 60), 1);
        }
    }
}
