import java.io.IOException;
import java.lang.reflect.Field;
import java.lang.reflect.InvocationTargetException;
import java.lang.reflect.Method;
import java.lang.reflect.Modifier;
import java.nio.file.Files;
import java.nio.file.Path;
import java.util.List;
import java.util.Map;
import java.util.Set;
import java.util.TreeMap;
import java.util.TreeSet;
import java.util.regex.Matcher;
import java.util.regex.Pattern;
import java.util.stream.Collectors;
import java.util.stream.Stream;

/** README.md: what its examples answer, and that its tables name all calls, their refusals, and all tests. */
public final class ReadmeTest {
    private static final Path TESTS = Path.of("src/test/java");
    private static final Pattern CALL = Pattern.compile("w\\.(\\w+)\\((.*)\\);\\s+// (-?\\d+|[A-Z]+)\\b.*");
    private static final Pattern TELL = Pattern.compile("tell\\(w, \"(.*)\"\\);");
    private static final Pattern CALL_ROW = Pattern.compile("\\| `(\\w+)\\((.*?)\\)` \\| .* \\|(.*)\\|");
    private static final Pattern PROMISE = Pattern.compile("## Promise \\d+: (\\w+)\n\n(.*)");
    private static final Pattern REFUSAL = Pattern.compile("\\b(UNKNOWN|OUTSIDE|NOT|FULL)\\b");
    private static final Pattern TEST_ROW = Pattern.compile("\\| `(\\w+)` \\| .* \\|");

    private static SeenWaters waters = null;

    public static void main(String[] args) throws Exception {
        String page = Files.readString(Path.of("README.md"));
        String[] blocks = page.split("```");
        int examples = 0;
        for (int i = 1; i < blocks.length; i += 2) {
            if (blocks[i].startsWith("java") && blocks[i].contains("new SeenWaters()")) {
                examples++;
                example(blocks[i].lines().skip(1).toList());
            } else if (blocks[i].startsWith("java")) {
                helpers(blocks[i].lines().skip(1).toList());
            }
        }
        Due.due("examples of README.md", examples, 2);
        tables(page.lines().toList());
        Due.end("ReadmeTest");
    }

    private static void example(List<String> lines) throws ReflectiveOperationException {
        for (String line : lines) {
            Matcher call = CALL.matcher(line);
            Matcher tell = TELL.matcher(line);
            if (line.equals("SeenWaters w = new SeenWaters();")) {
                waters = new SeenWaters();
            } else if (tell.matches()) {
                Due.tell(waters, tell.group(1));
            } else if (call.matches()) {
                Due.due("README.md: " + line, answer(call.group(1), call.group(2)), number(call.group(3)));
            } else {
                Due.due("README.md: a line that is not understood: " + line, line.length(), 0);
            }
        }
    }

    private static int answer(String name, String arguments) throws IllegalAccessException, InvocationTargetException {
        Method method = Stream.of(SeenWaters.class.getMethods()).filter(one -> one.getName().equals(name)).findFirst().orElseThrow();
        Class<?>[] types = method.getParameterTypes();
        String[] words = arguments.isEmpty() ? new String[0] : arguments.split(", ");
        Object[] values = new Object[words.length];
        for (int i = 0; i < words.length; i++) {
            long value = Long.decode(words[i].replace("L", ""));
            if (types[i] == int.class) {
                values[i] = (int) value;
            } else {
                values[i] = value;
            }
        }
        return (Integer) method.invoke(waters, values);
    }

    private static int number(String word) throws ReflectiveOperationException {
        if (Character.isLetter(word.charAt(0))) {
            Field constant = SeenWaters.class.getField(word);
            return constant.getInt(null);
        }
        return Integer.parseInt(word);
    }

    /** The tests feed their texts by the very lines that the page shows. */
    private static void helpers(List<String> lines) throws IOException {
        String used = Files.readString(TESTS.resolve("Due.java"));
        String shown = lines.stream().map(line -> line.isEmpty() ? line : "    " + line).collect(Collectors.joining("\n"));
        Due.due("README.md shows tell and packed as they are in Due.java", used.contains(shown) ? 1 : 0, 1);
    }

    private static String refusalsOf(String text) {
        return REFUSAL.matcher(text).results().map(found -> found.group()).collect(Collectors.joining(", "));
    }

    /** What the document's promises refuse, by the name of the call. */
    private static Map<String, String> refusals() throws IOException {
        Map<String, String> all = new TreeMap<>();
        Matcher promise = PROMISE.matcher(Files.readString(Path.of("../shared/DOC.md")));
        while (promise.find()) {
            all.put(promise.group(1), refusalsOf(promise.group(2)));
        }
        return all;
    }

    private static void tables(List<String> lines) throws IOException {
        Map<String, String> refusals = refusals();
        Set<String> calls = new TreeSet<>();
        Set<String> tests = new TreeSet<>();
        for (String line : lines) {
            Matcher call = CALL_ROW.matcher(line);
            Matcher test = TEST_ROW.matcher(line);
            if (call.matches()) {
                int count = call.group(2).isEmpty() ? 0 : call.group(2).split(", ").length;
                calls.add(call.group(1) + " of " + count);
                Due.alike("README.md: the refusals of " + call.group(1), List.of(refusalsOf(call.group(3))),
                    List.of(refusals.getOrDefault(call.group(1), "no promise")));
            } else if (test.matches()) {
                tests.add(test.group(1) + ".java");
            }
        }
        Set<String> face = Stream.of(SeenWaters.class.getDeclaredMethods()).filter(one -> Modifier.isPublic(one.getModifiers()))
            .map(one -> one.getName() + " of " + one.getParameterCount()).collect(Collectors.toCollection(TreeSet::new));
        Due.alike("README.md's table of calls", List.copyOf(calls), List.copyOf(face));
        try (Stream<Path> files = Files.list(TESTS)) {
            Set<String> there = files.map(file -> file.getFileName().toString()).filter(name -> name.endsWith("Test.java"))
                .collect(Collectors.toCollection(TreeSet::new));
            Due.alike("README.md's table of tests", List.copyOf(tests), List.copyOf(there));
        }
    }
}
