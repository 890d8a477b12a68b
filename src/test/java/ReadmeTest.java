import java.io.IOException;
import java.lang.reflect.InvocationTargetException;
import java.lang.reflect.Method;
import java.lang.reflect.Modifier;
import java.nio.file.DirectoryStream;
import java.nio.file.Files;
import java.nio.file.Path;
import java.util.ArrayList;
import java.util.List;
import java.util.Map;
import java.util.Set;
import java.util.TreeMap;
import java.util.TreeSet;
import java.util.regex.Matcher;
import java.util.regex.Pattern;

/**
 * README.md: the calls that it shows answer what it shows, its refusals bear the class's numbers, its
 * rows are the calls of the document with their refusals, and it names every test of the project.
 */
public final class ReadmeTest {
    private static final Path README = Path.of("README.md");
    private static final Path DOCUMENT = Path.of("../shared/DOC.md");
    private static final Path TESTS = Path.of("src/test/java");
    private static final String[] REFUSALS = {"BAD", "NO", "FULL", "NONE"};
    private static final int PROMISED = 512;

    private static final Pattern MADE = Pattern.compile("SpeechMarks x = new SpeechMarks\\(\\);");
    private static final Pattern WRITTEN = Pattern.compile(
        "for \\(char c : \"([^\"\\\\]+)\"(?:\\.repeat\\((\\d+)\\))?\\.toCharArray\\(\\)\\) x\\.write\\(c\\);");
    private static final Pattern CALLED = Pattern.compile(
        "x\\.(\\w+)\\(([^)]*|'\\)')\\); +// ('.'|-?\\d+|[A-Z]+)(?:: .+)?");
    private static final Pattern SHOWN = Pattern.compile("// (speech|mended): (.*)");
    private static final Pattern NUMBERED = Pattern.compile("\\| `([A-Z]+)` *\\| (-?\\d+) *\\|.*");
    private static final Pattern ROW = Pattern.compile("\\| `(\\w+)\\(([^)]*)\\)` \\|.*\\|(.*)\\|");
    private static final Pattern FACE = Pattern.compile(" *public int (\\w+)\\(([^)]*)\\);");
    private static final Pattern PROMISE = Pattern.compile("## Promise \\d+: (\\w+)");

    private static int checked = 0;
    private static int wrong = 0;
    /** By the page's own table, so that the page is looked at, and not the class alone. */
    private static final Map<String, Integer> numbers = new TreeMap<>();
    private static final Set<String> namesShown = new TreeSet<>();
    private static final Set<String> refusalsShown = new TreeSet<>();
    private static SpeechMarks object = null;
    private static int used = 0;

    public static void main(String[] args) throws IOException, ReflectiveOperationException {
        List<String> page = Files.readAllLines(README);
        refusals(page);
        examples(page);
        rows(page, Files.readAllLines(DOCUMENT));
        tests(page);
        System.out.println("ReadmeTest: " + checked + " looked at, " + wrong + " wrong");
        if (wrong != 0) {
            System.exit(1);
        }
    }

    private static void due(String what, Object got, Object want) {
        checked++;
        if (!want.equals(got)) {
            wrong++;
            System.out.println("README.md, " + what + ": it is " + got + ", due is " + want);
        }
    }

    private static void refusals(List<String> page) throws ReflectiveOperationException {
        for (String line : page) {
            Matcher row = NUMBERED.matcher(line);
            if (row.matches()) {
                due("one row for " + row.group(1), numbers.containsKey(row.group(1)), false);
                numbers.put(row.group(1), Integer.valueOf(row.group(2)));
            }
        }
        due("the refusals", numbers.keySet(), Set.of(REFUSALS));
        for (String name : REFUSALS) {
            due("the number of " + name, numbers.get(name), SpeechMarks.class.getField(name).get(null));
        }
    }

    // ---- the calls that it shows

    private static void examples(List<String> page) throws ReflectiveOperationException {
        boolean inside = false;
        int blocks = 0;
        for (int i = 0; i < page.size(); i++) {
            String line = page.get(i);
            if (line.startsWith("```")) {
                inside = line.equals("```java");
                blocks += inside ? 1 : 0;
                object = null;
            } else if (inside) {
                show("line " + (i + 1), line.trim());
            }
        }
        due("it shows calls", blocks > 0, true);
        due("every call is shown", namesShown, publicNames());
        due("every refusal is shown", refusalsShown, Set.of(REFUSALS));
    }

    private static Set<String> publicNames() {
        Set<String> all = new TreeSet<>();
        for (Method method : SpeechMarks.class.getDeclaredMethods()) {
            if (Modifier.isPublic(method.getModifiers())) {
                all.add(method.getName());
            }
        }
        return all;
    }

    private static void show(String where, String line) throws ReflectiveOperationException {
        Matcher written = WRITTEN.matcher(line);
        Matcher called = CALLED.matcher(line);
        Matcher shown = SHOWN.matcher(line);
        if (MADE.matcher(line).matches()) {
            object = new SpeechMarks();
            used = 0;
        } else if (object == null) {
            due(where, "no object has been made", line);
        } else if (written.matches()) {
            int times = written.group(2) == null ? 1 : Integer.parseInt(written.group(2));
            for (char c : written.group(1).repeat(times).toCharArray()) {
                due(where + ", " + c + " is written", object.write(c) > 0, true);
                used++;
            }
        } else if (called.matches()) {
            namesShown.add(called.group(1));
            due(where + ", " + line, answer(called.group(1), called.group(2)), answerShown(called.group(3)));
        } else if (shown.matches()) {
            due(where, row(shown.group(1)), shown.group(2));
        } else {
            due(where, "not understood", line);
        }
        due(where + ", no more calls than promised", used <= PROMISED, true);
    }

    private static Object answer(String name, String arguments) throws ReflectiveOperationException {
        String[] parts = arguments.isEmpty() ? new String[0] : arguments.split(", ");
        Object[] values = new Object[parts.length];
        Class<?>[] types = new Class<?>[parts.length];
        for (int i = 0; i < parts.length; i++) {
            values[i] = number(parts[i]);
            types[i] = int.class;
        }
        used++;
        try {
            return SpeechMarks.class.getMethod(name, types).invoke(object, values);
        } catch (NoSuchMethodException | InvocationTargetException e) {
            return e.toString();
        }
    }

    private static int number(String shown) {
        return shown.startsWith("'") ? shown.charAt(1) : Integer.parseInt(shown);
    }

    private static Object answerShown(String shown) {
        if (!Character.isUpperCase(shown.charAt(0))) {
            return number(shown);
        }
        refusalsShown.add(shown);
        return numbers.containsKey(shown) ? numbers.get(shown) : shown;
    }

    /** All signs of the speech, or of mended; asked beside the calls that the page shows. */
    private static String row(String which) {
        boolean mended = which.equals("mended");
        int many = mended ? object.mended(-1) : object.count(0);
        StringBuilder all = new StringBuilder();
        for (int i = 0; i < many; i++) {
            all.append((char) (mended ? object.mended(i) : object.sign(i)));
        }
        used += many + 1;
        return all.toString();
    }

    // ---- its rows, and the document

    private static void rows(List<String> page, List<String> document) {
        Map<String, String> told = new TreeMap<>();
        Map<String, Set<String>> refused = new TreeMap<>();
        for (String line : page) {
            Matcher row = ROW.matcher(line);
            if (row.matches()) {
                due("one row for " + row.group(1), told.containsKey(row.group(1)), false);
                told.put(row.group(1), row.group(2));
                refused.put(row.group(1), refusalsIn(row.group(3)));
            }
        }
        due("its calls", told, face(document));
        due("their refusals", refused, promises(document, told.keySet()));
    }

    private static Set<String> refusalsIn(String words) {
        Set<String> all = new TreeSet<>();
        for (String name : REFUSALS) {
            if (Pattern.compile("\\b" + name + "\\b").matcher(words).find()) {
                all.add(name);
            }
        }
        return all;
    }

    /** Of each method of the document's face the names of its numbers. */
    private static Map<String, String> face(List<String> document) {
        Map<String, String> all = new TreeMap<>();
        for (String line : document) {
            Matcher method = FACE.matcher(line);
            if (method.matches()) {
                all.put(method.group(1), method.group(2).replace("int ", ""));
            }
        }
        return all;
    }

    private static Map<String, Set<String>> promises(List<String> document, Set<String> names) {
        Map<String, Set<String>> all = new TreeMap<>();
        String name = "";
        for (String line : document) {
            Matcher head = PROMISE.matcher(line);
            if (line.startsWith("## ")) {
                name = head.matches() ? head.group(1) : "";
            } else if (names.contains(name)) {
                all.computeIfAbsent(name, n -> new TreeSet<>()).addAll(refusalsIn(line));
            }
        }
        return all;
    }

    // ---- the tests that it names

    /** Those of the project alone: what stands in ../shared/tests may grow without this page. */
    private static void tests(List<String> page) throws IOException {
        String part = behind("## Tests", page);
        Set<String> named = new TreeSet<>();
        Matcher item = Pattern.compile("(?m)^- `(\\w+)`: \\w").matcher(part);
        while (item.find()) {
            named.add(item.group(1));
        }
        due("the tests", named, testNames());
        due("how they are run", part.contains("\n    .ci/run\n"), true);
        due("the shared ones", part.contains("`../shared/tests`"), true);
    }

    private static String behind(String head, List<String> page) {
        List<String> part = new ArrayList<>();
        boolean inside = false;
        for (String line : page) {
            if (line.startsWith("## ")) {
                inside = line.equals(head);
            }
            if (inside) {
                part.add(line);
            }
        }
        return String.join("\n", part);
    }

    private static Set<String> testNames() throws IOException {
        Set<String> all = new TreeSet<>();
        try (DirectoryStream<Path> files = Files.newDirectoryStream(TESTS, "*.java")) {
            for (Path file : files) {
                all.add(file.getFileName().toString().replace(".java", ""));
            }
        }
        return all;
    }
}
