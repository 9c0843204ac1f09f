import java.lang.reflect.Field;
import java.lang.reflect.Method;
import java.lang.reflect.Modifier;
import java.nio.file.Files;
import java.nio.file.Path;
import java.util.List;
import java.util.Set;
import java.util.TreeSet;
import java.util.regex.Matcher;
import java.util.regex.Pattern;

/** The public face (1 to 29), and those rules of LANGUAGE.md that a look at the source can tell. */
public final class RulesTest {
    private static final List<String> FACE = List.of(
        "feed(int,long)", "lake()", "fault()", "told(int)", "cell(int,int,int)", "man(int,int)", "sees(int,int,int)",
        "blocker(int,int,int)", "share(int)", "free(int)", "law(int)", "build(int)", "plant(int,int,int)", "day(int)",
        "drift(int)", "begin()", "tree(int,int,int)", "wins(int)", "view(int,int,int)", "towers(int,int,int,int,int)",
        "boat(int,int)", "needed(int)", "write(int,int,int)", "tear()", "judge()", "seed(int)", "keep(int)", "goBack(int)");

    private static int wrong = 0;

    public static void main(String[] args) throws Exception {
        face();
        nested();
        source(Files.readString(Path.of(args.length > 0 ? args[0] : "src/main/java/SeenWaters.java")));
        System.out.println("RulesTest: " + wrong + " wrong");
        if (wrong != 0) {
            System.exit(1);
        }
    }

    private static void must(boolean holds, String what) {
        if (!holds) {
            wrong++;
            System.out.println("broken: " + what);
        }
    }

    private static String signature(Method method) {
        StringBuilder text = new StringBuilder(method.getName()).append('(');
        for (Class<?> type : method.getParameterTypes()) {
            text.append(text.charAt(text.length() - 1) == '(' ? "" : ",").append(type.getName());
        }
        return text.append(')').toString();
    }

    private static void face() {
        Set<String> open = new TreeSet<>();
        for (Method method : SeenWaters.class.getDeclaredMethods()) {
            if (!Modifier.isPrivate(method.getModifiers())) {
                open.add(signature(method));
                must(Modifier.isPublic(method.getModifiers()) && method.getReturnType() == int.class, "the face of " + method);
            } else {
                must(FACE.stream().noneMatch(one -> one.startsWith(method.getName() + "(")), "a private method has a public name: " + method);
            }
        }
        must(open.equals(new TreeSet<>(FACE)), "the public methods are " + open);
        Set<String> constants = new TreeSet<>();
        for (Field field : SeenWaters.class.getDeclaredFields()) {
            if (!Modifier.isPrivate(field.getModifiers())) {
                constants.add(field.getName());
            }
        }
        must(constants.equals(Set.of("NONE", "UNKNOWN", "OUTSIDE", "NOT", "FULL")), "the constants are " + constants);
        must(SeenWaters.class.getConstructors().length == 1 && SeenWaters.class.getDeclaredConstructors().length == 1, "one constructor");
        must(Modifier.isFinal(SeenWaters.class.getModifiers()), "the class is final");
    }

    private static void nested() {
        Class<?>[] all = SeenWaters.class.getDeclaredClasses();
        must(all.length <= 12, "twelve classes");
        for (Class<?> one : all) {
            must(Modifier.isStatic(one.getModifiers()) && !Modifier.isPublic(one.getModifiers()), "static and not public: " + one);
            for (Method method : one.getDeclaredMethods()) {
                must(method.getParameterCount() <= 7, "seven parameters: " + method);
                must(FACE.stream().noneMatch(face -> face.startsWith(method.getName() + "(")), "a public name: " + method);
            }
            fields(one);
        }
        fields(SeenWaters.class);
    }

    private static void fields(Class<?> one) {
        int own = 0;
        for (Field field : one.getDeclaredFields()) {
            if (Modifier.isStatic(field.getModifiers())) {
                boolean plain = Set.of(int.class, long.class, boolean.class, char.class, String.class).contains(field.getType());
                must(Modifier.isFinal(field.getModifiers()) && plain, "a static field is a constant: " + field);
            } else {
                own++;
            }
        }
        must(own <= 20, "twenty fields: " + one);
    }

    private static void source(String text) {
        must(text.chars().allMatch(c -> c > 0 && c < 128), "plain signs");
        String code = text.replaceAll("(?s)/\\*.*?\\*/", "").replaceAll("//[^\n]*", "");
        String bare = code.replaceAll("\"[^\"\n]*\"", "\"\"");
        String[] words = {"throw", "throws", "try", "catch", "synchronized", "assert", "import", "package", "static \\{", "->", "::",
            "Integer\\.MAX_VALUE", "Integer\\.MIN_VALUE", "Random", "Thread", "currentTimeMillis", "nanoTime", "hashCode", "toString", "var"};
        for (String word : words) {
            boolean letters = Character.isLetter(word.charAt(0));
            must(!Pattern.compile(letters ? "\\b" + word + (word.endsWith("{") ? "" : "\\b") : word).matcher(bare).find(), "no " + word);
        }
        Matcher calls = Pattern.compile("\\b(Math|Integer|Long|System|String|Arrays)\\.(\\w+)").matcher(bare);
        Set<String> allowed = Set.of("Math.max", "Math.min", "Math.abs", "Integer.bitCount", "System.arraycopy");
        while (calls.find()) {
            must(allowed.contains(calls.group()), "the library: " + calls.group());
        }
        methodLengths(text.split("\n"));
        makings(code.split("\n"));
    }

    /** Rows are made in constructors alone, so that no call takes of the one room that all calls share. */
    private static void makings(String[] lines) {
        boolean constructs = false;
        for (String line : lines) {
            if (line.startsWith("    public ") && line.endsWith("{")) {
                constructs = line.equals("    public SeenWaters() {");
            }
            boolean field = line.matches(" {8}(private )?final .* = new .*;");
            must(constructs || field || !line.matches(".*\\bnew\\b.*"), "made in a call: " + line.trim());
        }
    }

    private static void methodLengths(String[] lines) {
        Pattern head = Pattern.compile("^( {4}| {8})[a-zA-Z][\\w\\[\\] ]*\\([^;]*\\) \\{$");
        for (int i = 0; i < lines.length; i++) {
            Matcher matcher = head.matcher(lines[i]);
            if (matcher.matches()) {
                int end = i;
                while (end < lines.length && !lines[end].equals(matcher.group(1) + "}")) {
                    end++;
                }
                must(end - i < 60, "sixty lines: " + lines[i].trim());
            }
        }
    }
}
