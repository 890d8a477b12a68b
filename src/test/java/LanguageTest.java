import java.io.IOException;
import java.lang.reflect.Constructor;
import java.lang.reflect.Field;
import java.lang.reflect.Method;
import java.lang.reflect.Modifier;
import java.nio.file.Files;
import java.nio.file.Path;
import java.util.ArrayList;
import java.util.Arrays;
import java.util.List;
import java.util.Map;
import java.util.Random;
import java.util.Set;
import java.util.TreeMap;
import java.util.TreeSet;
import java.util.regex.Matcher;
import java.util.regex.Pattern;

/** The public face, the rules of LANGUAGE.md that can be seen from outside, and that no call throws. */
public final class LanguageTest {
    private static final Path SOURCE = Path.of("src/main/java/SpeechMarks.java");
    private static final Path DOCUMENT = Path.of("../shared/DOC.md");
    private static final int METHODS = 26;
    /** What the document prints as the public face: its methods, and its constants with their numbers. */
    private static final Set<String> faceMethods = new TreeSet<>();
    private static final Map<String, Integer> faceConstants = new TreeMap<>();
    private static final List<String> wrongs = new ArrayList<>();
    /** Of each method's name in the source its body. */
    private static final Map<String, String> calls = new TreeMap<>();

    public static void main(String[] args) throws IOException, ReflectiveOperationException {
        readDocument();
        face();
        classesInside();
        source();
        noCallThrows();
        for (String line : wrongs) {
            System.out.println("LanguageTest: " + line);
        }
        System.out.println("LanguageTest: " + wrongs.size() + " wrong");
        if (!wrongs.isEmpty()) {
            System.exit(1);
        }
    }

    private static void must(boolean holds, String what) {
        if (!holds) {
            wrongs.add(what);
        }
    }

    private static void readDocument() throws IOException {
        String document = Files.readString(DOCUMENT);
        int begin = document.indexOf("public final class SpeechMarks {");
        String face = document.substring(Math.max(begin, 0), Math.max(document.indexOf("\n}", begin), 0));
        Matcher methods = Pattern.compile("public int (\\w+)\\(([^)]*)\\);").matcher(face);
        while (methods.find()) {
            faceMethods.add(methods.group(1) + "(" + methods.group(2).replaceAll("int \\w+", "int").replace(" ", "") + ")");
        }
        Matcher constants = Pattern.compile("([A-Z]+) = (-?\\d+)").matcher(face);
        while (constants.find()) {
            faceConstants.put(constants.group(1), Integer.valueOf(constants.group(2)));
        }
        must(faceMethods.size() == METHODS && faceConstants.size() == 4, "the document's face was not found");
    }

    private static void face() throws ReflectiveOperationException {
        Class<SpeechMarks> face = SpeechMarks.class;
        must(Modifier.isPublic(face.getModifiers()) && Modifier.isFinal(face.getModifiers()), "not public final");
        Set<String> open = new TreeSet<>();
        Set<String> names = new TreeSet<>();
        for (Method method : face.getDeclaredMethods()) {
            if (!Modifier.isPrivate(method.getModifiers())) {
                must(Modifier.isPublic(method.getModifiers()), method + " is not public");
                must(method.getReturnType() == int.class, method + " answers no int");
                must(!Modifier.isStatic(method.getModifiers()), method + " is static");
                open.add(signature(method));
                names.add(method.getName());
            }
        }
        must(open.equals(faceMethods), "the methods are " + open);
        for (Class<?> any : allClasses()) {
            for (Method method : any.getDeclaredMethods()) {
                must(any == face && !Modifier.isPrivate(method.getModifiers()) || !names.contains(method.getName()),
                    method + " bears the name of a public method");
            }
        }
        Map<String, Integer> constants = new TreeMap<>();
        for (Field field : face.getDeclaredFields()) {
            int modifiers = field.getModifiers();
            if (!Modifier.isPrivate(modifiers)) {
                boolean constant = Modifier.isPublic(modifiers) && Modifier.isStatic(modifiers)
                    && Modifier.isFinal(modifiers) && field.getType() == int.class;
                must(constant, field + " is no public constant");
                constants.put(field.getName(), constant ? field.getInt(null) : 0);
            }
        }
        must(constants.equals(faceConstants), "the constants are " + constants);
        Constructor<?>[] makers = face.getDeclaredConstructors();
        must(makers.length == 1 && Modifier.isPublic(makers[0].getModifiers())
            && makers[0].getParameterCount() == 0, "the constructor");
    }

    private static String signature(Method method) {
        StringBuilder all = new StringBuilder(method.getName()).append('(');
        for (int i = 0; i < method.getParameterCount(); i++) {
            all.append(i == 0 ? "" : ",").append(method.getParameterTypes()[i].getName());
        }
        return all.append(')').toString();
    }

    private static List<Class<?>> allClasses() {
        List<Class<?>> all = new ArrayList<>();
        all.add(SpeechMarks.class);
        all.addAll(Arrays.asList(SpeechMarks.class.getDeclaredClasses()));
        return all;
    }

    private static void classesInside() {
        must(allClasses().size() <= 12, "more than twelve classes");
        for (Class<?> any : allClasses()) {
            int modifiers = any.getModifiers();
            must(any == SpeechMarks.class || Modifier.isStatic(modifiers)
                && !Modifier.isPublic(modifiers) && !Modifier.isProtected(modifiers), any + " is not static or not closed");
            int fields = 0;
            for (Field field : any.getDeclaredFields()) {
                boolean isStatic = Modifier.isStatic(field.getModifiers());
                must(!isStatic || Modifier.isFinal(field.getModifiers()), field + " is static and not final");
                fields += isStatic ? 0 : 1;
            }
            must(fields <= 20, any + " has " + fields + " fields");
            for (Method method : any.getDeclaredMethods()) {
                must(method.getParameterCount() <= 7, method + " takes more than seven");
            }
        }
    }

    private static void source() throws IOException {
        String whole = Files.readString(SOURCE);
        must(whole.chars().allMatch(c -> c == '\n' || c >= 32 && c < 127), "a sign outside ASCII");
        String code = whole.replaceAll("(?s)/\\*.*?\\*/", "").replaceAll("//[^\n]*", "")
            .replaceAll("'(\\\\.|[^'\\\\])'", "0").replaceAll("\"(\\\\.|[^\"\\\\])*\"", "0");
        String[] none = {"throw", "throws", "try", "catch", "synchronized", "assert", "import", "package",
            "native", "volatile", "transient", "Object", "Exception", "System", "Thread", "Random", "protected"};
        for (String word : none) {
            must(!Pattern.compile("\\b" + word + "\\b").matcher(code).find(), "the word " + word);
        }
        must(!code.contains("->") && !code.contains("::"), "a lambda or a method reference");
        must(!code.contains("Exact"), "a function whose name ends in Exact");
        must(!Pattern.compile("\\bstatic\\s*\\{").matcher(code).find(), "a static initialiser block");
        must(!Pattern.compile("while\\s*\\(\\s*true|for\\s*\\(\\s*;").matcher(code).find(), "a loop without an end");
        methodsAreShort(code);
        callsAreFlat();
    }

    private static void methodsAreShort(String code) {
        Matcher heads = Pattern.compile("(?m)^( {4}| {8})\\w[^;={]*\\([^;{]*\\) \\{$").matcher(code);
        int methods = 0;
        while (heads.find()) {
            int end = code.indexOf("\n" + heads.group(1) + "}", heads.end());
            long lines = code.substring(heads.start(), Math.max(end, heads.start())).lines().count();
            must(lines <= 60, "a long method: " + heads.group().trim());
            calls.put(nameIn(heads.group()), code.substring(heads.end(), Math.max(end, heads.end())));
            methods++;
        }
        must(methods > METHODS, "the methods were not found in the source");
    }

    private static String nameIn(String head) {
        String ahead = head.substring(0, head.indexOf('(')).trim();
        return ahead.substring(ahead.lastIndexOf(' ') + 1);
    }

    /** By the names in the source, so two methods of one name count as one. */
    private static void callsAreFlat() {
        for (String signature : faceMethods) {
            String name = signature.substring(0, signature.indexOf('('));
            int levels = levelsBelow(name, 1);
            must(levels <= 8, "calls go " + levels + " deep from " + name);
        }
    }

    private static int levelsBelow(String name, int level) {
        int most = level;
        Matcher called = Pattern.compile("\\b(\\w+)\\(").matcher(calls.getOrDefault(name, ""));
        while (called.find() && most <= 30) {
            if (calls.containsKey(called.group(1))) {
                most = Math.max(most, level > 30 ? level : levelsBelow(called.group(1), level + 1));
            }
        }
        return most;
    }

    /**
     * Any arguments in any state, and every method. An object gets some 1500 calls here, beyond the 512
     * whose answers are promised: that a call never throws has no such end, and no answer is looked at.
     */
    private static void noCallThrows() throws ReflectiveOperationException {
        List<Method> methods = new ArrayList<>();
        for (Method method : SpeechMarks.class.getDeclaredMethods()) {
            if (Modifier.isPublic(method.getModifiers())) {
                methods.add(method);
            }
        }
        methods.sort((a, b) -> a.getName().compareTo(b.getName()));
        for (int seed = 0; seed < 300; seed++) {
            Random random = new Random(seed);
            SpeechMarks x = new SpeechMarks();
            for (int call = 0; call < 512; call++) {
                Method method = methods.get(random.nextInt(methods.size()));
                Object[] arguments = new Object[method.getParameterCount()];
                for (int i = 0; i < arguments.length; i++) {
                    arguments[i] = anyNumber(random);
                }
                method.invoke(x, arguments);
                fill(x, random);
            }
        }
    }

    private static int anyNumber(Random random) {
        switch (random.nextInt(6)) {
            case 0: return random.nextInt();
            case 1: return random.nextBoolean() ? Integer.MAX_VALUE : Integer.MIN_VALUE;
            case 2: return random.nextInt(130) - 4;
            case 3: return "<>{}()[]\"'| a".charAt(random.nextInt(13));
            default: return random.nextInt(6) - 1;
        }
    }

    private static void fill(SpeechMarks x, Random random) {
        int size = x.count(0);
        x.put(random.nextInt(size + 1), "<>{}()[]\"'| a<>{}|".charAt(random.nextInt(18)));
    }
}
