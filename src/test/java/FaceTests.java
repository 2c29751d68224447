import java.io.IOException;
import java.lang.reflect.Constructor;
import java.lang.reflect.Field;
import java.lang.reflect.Method;
import java.lang.reflect.Modifier;
import java.nio.file.Files;
import java.nio.file.Path;
import java.util.Set;
import java.util.TreeSet;
import java.util.regex.Matcher;
import java.util.regex.Pattern;

/** The class has the document's face and nothing more, and keeps to the rules of LANGUAGE.md that a look at it can tell. */
public final class FaceTests {
    private static final Path SOURCE = Path.of("src/main/java/StrikePasses.java");
    private static final Set<String> CALLS = Set.of(
        "type(1)", "clear(0)", "page(0)", "letter(2)", "line(2)", "dots(2)", "draws(3)", "types(2)", "strikes(1)", "sets(2)",
        "undo(0)", "passes(1)", "pass(3)", "span(3)", "goes(2)", "stands(3)", "way(1)", "wear(1)", "crowd(2)", "easy(1)",
        "place(2)", "sees(2)", "forget(0)", "unseen(0)", "ask(0)", "keep(1)", "back(1)", "count(1)");
    private static final Set<String> CONSTANTS = Set.of("BAD", "STATE", "FULL", "NONE", "NO");
    private static int checks = 0;
    private static int wrong = 0;

    private static void hold(String what, boolean so) {
        checks++;
        if (!so) {
            wrong++;
            System.out.println("not so: " + what);
        }
    }

    private static void face() throws IllegalAccessException {
        Class<?> face = StrikePasses.class;
        hold("public and final", Modifier.isPublic(face.getModifiers()) && Modifier.isFinal(face.getModifiers()));
        Set<String> seen = new TreeSet<>();
        for (Method m : face.getDeclaredMethods()) {
            if (Modifier.isPrivate(m.getModifiers())) continue;
            boolean ints = m.getReturnType() == int.class;
            for (Class<?> p : m.getParameterTypes()) ints = ints && p == int.class;
            hold(m + " is public and of ints", Modifier.isPublic(m.getModifiers()) && !Modifier.isStatic(m.getModifiers()) && ints);
            seen.add(m.getName() + "(" + m.getParameterCount() + ")");
        }
        hold("the calls are the document's: " + seen, seen.equals(CALLS));
        Set<String> constants = new TreeSet<>();
        for (Field f : face.getDeclaredFields()) {
            if (Modifier.isPrivate(f.getModifiers())) continue;
            hold(f + " is a constant", Modifier.isPublic(f.getModifiers()) && Modifier.isStatic(f.getModifiers()) && Modifier.isFinal(f.getModifiers()));
            constants.add(f.getName());
        }
        hold("the constants are the document's: " + constants, constants.equals(CONSTANTS));
        Constructor<?>[] made = face.getDeclaredConstructors();
        hold("one public constructor of nothing",
            made.length == 1 && Modifier.isPublic(made[0].getModifiers()) && made[0].getParameterCount() == 0);
    }

    private static void classesInside() {
        Class<?>[] inside = StrikePasses.class.getDeclaredClasses();
        hold("at most some twelve classes", inside.length < 12);
        Set<String> publics = new TreeSet<>();
        for (String call : CALLS) publics.add(call.substring(0, call.indexOf('(')));
        for (Class<?> c : inside) {
            hold(c + " is static and not public", Modifier.isStatic(c.getModifiers()) && !Modifier.isPublic(c.getModifiers()));
            for (Method m : c.getDeclaredMethods()) {
                hold(m + " bears no public name", !publics.contains(m.getName()));
                hold(m + " takes at most seven", m.getParameterCount() <= 7);
            }
            fields(c);
        }
        for (Method m : StrikePasses.class.getDeclaredMethods()) {
            hold(m + " bears no public name", Modifier.isPublic(m.getModifiers()) || !publics.contains(m.getName()));
        }
        fields(StrikePasses.class);
    }

    private static void fields(Class<?> c) {
        int held = 0;
        for (Field f : c.getDeclaredFields()) {
            if (Modifier.isStatic(f.getModifiers())) {
                hold(f + " is final", Modifier.isFinal(f.getModifiers()));
            } else {
                held++;
            }
        }
        hold(c + " has some twenty fields at most", held <= 20);
    }

    private static void words() throws IOException {
        String code = Files.readString(SOURCE).replaceAll("(?s)/\\*.*?\\*/", "").replaceAll("//[^\n]*", "");
        String[] never = {"throw", "throws", "try", "catch", "finally", "synchronized", "assert", "package", "Object", "Exception",
            "Random", "Thread", "System\\.(?!arraycopy)\\w+", "->", "::", "\\w+Exact", "hashCode", "toString", "protected", "native", "double", "float"};
        for (String word : never) {
            Matcher m = Pattern.compile("(?<!\\w)" + word + "(?!\\w)").matcher(code);
            hold("the source has no " + word, !m.find());
        }
        Matcher imports = Pattern.compile("import ([^;]+);").matcher(code);
        while (imports.find()) {
            hold("import of " + imports.group(1), Set.of("java.util.Arrays", "java.util.ArrayList", "java.util.List").contains(imports.group(1)));
        }
        // every call of a run lives in one room, so only fields and the constructor make anything
        for (String row : code.split("\n")) {
            boolean makes = Pattern.compile("\\bnew\\b|\\bclone\\b|copyOf").matcher(row).find();
            hold("made once: " + row.trim(), !makes || row.matches("\\s+(private )?final .* = new .*;") || row.trim().equals("images[i] = new Sheet();"));
        }
        for (int i = 0; i < code.length(); i++) {
            if (code.charAt(i) != '\n' && (code.charAt(i) < 32 || code.charAt(i) > 126)) hold("a plain sign at " + i, false);
        }
    }

    public static void main(String[] args) throws IllegalAccessException, IOException {
        face();
        classesInside();
        words();
        System.out.println(checks - wrong + " rules hold, " + wrong + " do not");
        if (wrong != 0) {
            System.exit(1);
        }
    }
}
