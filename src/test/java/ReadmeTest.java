import java.io.IOException;
import java.lang.reflect.Field;
import java.lang.reflect.Method;
import java.nio.file.Files;
import java.nio.file.Path;
import java.util.ArrayList;
import java.util.Arrays;
import java.util.List;
import java.util.Set;
import java.util.TreeSet;
import java.util.regex.Matcher;
import java.util.regex.Pattern;
import java.util.stream.Collectors;
import java.util.stream.Stream;

/** What README.md says is so: its example answers as it says, its tables tell all calls, kinds, refusals and tests. */
public final class ReadmeTest {
    private static final Path TESTS = Path.of("src/test/java");
    private static final Path DOCUMENT = Path.of("../shared/DOC.md");
    private static final Pattern CALL = Pattern.compile("field\\.(\\w+)\\((.*)\\); +// (-?\\d+): .+");

    private static final Due due = new Due();

    public static void main(String[] args) throws IOException, ReflectiveOperationException {
        String readme = Files.readString(Path.of("README.md"));
        example(readme);
        calls(readme);
        constants(readme);
        kinds(readme);
        tests(readme);
        files(readme);
        due.end();
    }

    private static int bit(boolean is) {
        return is ? 1 : 0;
    }

    /** Every line of the example is either its known start or a call with the answer that is due. */
    private static void example(String readme) throws ReflectiveOperationException {
        String[] lines = readme.replaceAll("(?s).*```java\n(.*?)```.*", "$1").split("\n");
        String[] start = {
            "PegField field = new PegField();", "String text = \"(.*)\";",
            "for \\(int index = 0; index < text.length\\(\\); index\\+\\+\\) \\{",
            "    field.letter\\(text.charAt\\(index\\)\\);", "\\}"
        };
        for (int index = 0; index < start.length; index++) {
            String pattern = index == 0 ? Pattern.quote(start[0]) : start[index];
            due.is("example: " + lines[index], bit(lines[index].matches(pattern)), 1);
        }
        PegField field = new PegField();
        Due.type(field, lines[1].replaceAll(start[1], "$1"));
        for (int index = start.length; index < lines.length; index++) {
            Matcher call = CALL.matcher(lines[index]);
            boolean isCall = call.matches();
            due.is("example, a call: " + lines[index], bit(isCall), 1);
            if (isCall) {
                long want = Long.parseLong(call.group(3));
                due.is("example: " + lines[index], answer(field, call.group(1), call.group(2)), want);
            }
        }
    }

    private static long answer(PegField field, String name, String told) throws ReflectiveOperationException {
        List<Object> values = new ArrayList<>();
        for (String each : told.isEmpty() ? new String[0] : told.split(", ")) {
            values.add(each.equals("true") || each.equals("false") ? (Object) each.equals("true") : Integer.valueOf(each));
        }
        for (Method method : PegField.class.getMethods()) {
            if (method.getName().equals(name) && method.getDeclaringClass() == PegField.class) {
                return ((Number) method.invoke(field, values.toArray())).longValue();
            }
        }
        throw new NoSuchMethodException(name);
    }

    /** The table tells each call of the document's face with the names of its parameters, and no other. */
    private static void calls(String readme) throws IOException {
        Set<String> told = new TreeSet<>();
        Matcher row = Pattern.compile("(?m)^\\| (`\\w+\\(.*?\\)`(?:, `\\w+\\(.*?\\)`)?) \\|").matcher(readme);
        while (row.find()) {
            told.addAll(Arrays.asList(row.group(1).replace("`", "").split("(?<=\\)), ")));
        }
        Set<String> names = told.stream().map(each -> each.replaceAll("\\(.*", "")).collect(Collectors.toCollection(TreeSet::new));
        Set<String> methods = new TreeSet<>();
        for (Method method : PegField.class.getDeclaredMethods()) {
            if ((method.getModifiers() & 1) == 1) {
                methods.add(method.getName());
            }
        }
        due.is("calls told: " + names, bit(names.equals(methods)), 1);
        if (Files.exists(DOCUMENT)) {
            Set<String> face = new TreeSet<>();
            Matcher line = Pattern.compile("public (?:int|long) (\\w+\\(.*\\));").matcher(Files.readString(DOCUMENT));
            while (line.find()) {
                face.add(line.group(1).replaceAll("(int|boolean) ", ""));
            }
            due.is("calls told: " + told + ", the face: " + face, bit(told.equals(face)), 1);
        }
    }

    private static void constants(String readme) throws ReflectiveOperationException {
        int found = 0;
        for (Field field : PegField.class.getFields()) {
            found++;
            String told = "`" + field.getName() + "` (" + field.getInt(null);
            due.is("told: " + told, bit(readme.contains(told)), 1);
        }
        due.is("constants", found, 5);
    }

    /** Each row of the kinds, by boards on which a peg of that kind can jump, or be jumped over. */
    private static void kinds(String readme) {
        Matcher row = Pattern.compile("(?m)^\\| `(\\w)` \\| (\\d), (\\w+) \\| (.*?) \\| (.*?) ?\\|$").matcher(readme);
        int kinds = 0;
        while (row.find()) {
            String letter = row.group(1);
            String name = "kind " + letter + ": ";
            PegField field = Due.on("34;." + letter + "p." + ".pp." + "....");
            due.is(name + "number", field.peg(0, 0), Integer.parseInt(row.group(2)));
            due.is(name + "number, from the least on", kinds, Integer.parseInt(row.group(2)));
            boolean isAslant = row.group(4).contains("aslant") || row.group(4).contains("all");
            boolean isStraight = row.group(4).contains("row") || row.group(4).contains("all");
            // Over place 2 to 3 and over 5 to 9 straight, over 6 to 11 aslant.
            due.is(name + "to", field.peg(0, 2), (isStraight ? 1 << 3 | 1 << 9 : 0) | (isAslant ? 1 << 11 : 0));
            boolean isStone = Due.on("22;" + letter + "...").as(0, 2) == 0;
            due.is(name + "jumped over", Due.on("24;p" + letter + "......").peg(0, 2), isStone ? 0 : 4);
            due.is(name + "jumped over, as told", bit(row.group(5).contains("cannot be jumped over")), bit(isStone));
            field.jump(0, isStraight ? 3 : 11);
            due.is(name + "goes off", bit(field.peg(0, 1) == PegField.NONE), bit(row.group(5).contains("goes off")));
            boolean isSlant = row.group(3).equals("slant") || row.group(5).contains("a slant, too");
            due.is(name + "a slant", field.as(0, 1), isSlant ? 0 : PegField.NONE);
            kinds++;
        }
        due.is("kinds told", kinds, 5);
    }

    private static void tests(String readme) throws IOException {
        Set<String> told = new TreeSet<>();
        Matcher row = Pattern.compile("(?m)^\\| `(\\w+Test)` \\|").matcher(readme);
        while (row.find()) {
            told.add(row.group(1));
        }
        try (Stream<Path> files = Files.list(TESTS)) {
            Set<String> there = files.map(file -> file.getFileName().toString().replace(".java", ""))
                .filter(name -> name.endsWith("Test")).collect(Collectors.toCollection(TreeSet::new));
            due.is("tests told: " + told + ", there: " + there, bit(told.equals(there)), 1);
        }
    }

    /** What looks like a file or a class of the tests is there. */
    private static void files(String readme) {
        Matcher name = Pattern.compile("`([\\w./]+/[\\w./]+|[A-Z]\\w+(?:Test|Edges)|Model)`|^ {4}(\\.ci/run)$",
            Pattern.MULTILINE).matcher(readme);
        int found = 0;
        while (name.find()) {
            found++;
            String told = name.group(1) == null ? name.group(2) : name.group(1);
            boolean isThere = Files.exists(Path.of(told)) || Files.exists(TESTS.resolve(told + ".java"));
            boolean isShared = told.startsWith("../shared");
            due.is("there is " + told, bit(isThere || isShared && !Files.exists(DOCUMENT)), 1);
        }
        due.is("files told", bit(found > 15), 1);
    }
}
