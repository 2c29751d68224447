import java.lang.reflect.Method;
import java.nio.file.Files;
import java.nio.file.Path;
import java.util.Set;
import java.util.TreeSet;
import java.util.regex.Matcher;
import java.util.regex.Pattern;

/** README.md tells the truth: its example answers as it says, its text table and its list of calls are the class's. */
public final class ReadmeTests {
    private static final Path README = Path.of("README.md");
    private static final Pattern TOLD = Pattern.compile("String text = \"([^\"]*)\";");
    private static final Pattern CALL = Pattern.compile("(?m)^x\\.(\\w+)\\(([-0-9, ]*)\\);\\s*// (-?[0-9]+):");
    private static final Pattern ITEM = Pattern.compile("(?m)^\\| `([grn]) N;`\\s*\\|[^|]*?, (\\d+) to (\\d+):[^|]*\\| (\\d+) ");
    private static final Pattern CONSTANT = Pattern.compile("`([A-Z]+)` \\((-[0-9]+)\\)");

    private static int checks = 0;
    private static int wrong = 0;

    private static void due(String what, Object got, Object want) {
        checks++;
        if (!got.equals(want)) {
            wrong++;
            System.out.println(what + " is " + got + ", due is " + want);
        }
    }

    private static void tell(StrikePasses x, String text) {
        for (int i = 0; i < text.length(); i++) {
            x.type(text.charAt(i));
        }
    }

    private static String between(String text, String from, String to) {
        int at = text.indexOf(from);
        int end = at < 0 ? -1 : text.indexOf(to, at + from.length());
        return end < 0 ? "" : text.substring(at + from.length(), end);
    }

    private static Method method(String name) {
        for (Method m : StrikePasses.class.getDeclaredMethods()) {
            if (m.getName().equals(name)) {
                return m;
            }
        }
        return null;
    }

    private static int answer(StrikePasses x, String name, String numbers) throws ReflectiveOperationException {
        String[] parts = numbers.isBlank() ? new String[0] : numbers.split(", ");
        Object[] arguments = new Object[parts.length];
        for (int i = 0; i < parts.length; i++) {
            arguments[i] = Integer.parseInt(parts[i]);
        }
        return (int) method(name).invoke(x, arguments);
    }

    private static void example(String readme) throws ReflectiveOperationException {
        String code = between(readme, "```java\n", "```");
        Matcher told = TOLD.matcher(code);
        due("a text in the example", told.find(), true);
        StrikePasses x = new StrikePasses();
        tell(x, told.group(1));
        Matcher calls = CALL.matcher(code);
        int many = 0;
        while (calls.find()) {
            due(calls.group(), answer(x, calls.group(1), calls.group(2)), Integer.parseInt(calls.group(3)));
            many++;
        }
        due("every call of the example has its answer", many, code.split("\nx\\.", -1).length - 1);
    }

    private static int page(String text) {
        StrikePasses x = new StrikePasses();
        tell(x, text);
        return x.page();
    }

    private static void settings(String readme) {
        Matcher items = ITEM.matcher(readme);
        int many = 0;
        while (items.find()) {
            String head = items.group(1);
            int least = Integer.parseInt(items.group(2));
            int greatest = Integer.parseInt(items.group(3));
            due(head + " least", page(head + " " + least + ";"), 1);
            due(head + " greatest", page(head + greatest + " ;"), 1);
            due(head + " beyond", page(head + (greatest + 1) + ";"), -11);
            due(head + " below", page(head + (least - 1) + ";"), -11);
            due(head + " at first", new StrikePasses().count(3 + "grn".indexOf(head)), Integer.parseInt(items.group(4)));
            many++;
        }
        due("settings in the table", many, 3);
    }

    private static void calls(String readme) {
        Set<String> named = new TreeSet<>();
        Matcher names = Pattern.compile("`(\\w+)`").matcher(between(readme, "### The calls", "A call that is refused"));
        while (names.find()) {
            named.add(names.group(1));
        }
        Set<String> face = new TreeSet<>();
        for (Method m : StrikePasses.class.getMethods()) {
            if (m.getDeclaringClass() == StrikePasses.class) {
                face.add(m.getName());
            }
        }
        due("calls", named, face);
    }

    private static void constants(String readme) throws ReflectiveOperationException {
        Matcher constants = CONSTANT.matcher(readme);
        int many = 0;
        while (constants.find()) {
            due(constants.group(1), StrikePasses.class.getField(constants.group(1)).getInt(null), Integer.parseInt(constants.group(2)));
            many++;
        }
        due("constants", many, 5);
    }

    private static void tests(String readme) throws java.io.IOException {
        try (var files = Files.list(Path.of("src/test/java"))) {
            for (Path file : files.toList()) {
                due("README names " + file, readme.contains("`" + file + "`"), true);
            }
        }
    }

    public static void main(String[] args) throws Exception {
        String readme = Files.readString(README);
        example(readme);
        settings(readme);
        calls(readme);
        constants(readme);
        tests(readme);
        System.out.println(checks - wrong + " lines of README.md are true, " + wrong + " are not");
        if (wrong > 0) {
            System.exit(1);
        }
    }
}
