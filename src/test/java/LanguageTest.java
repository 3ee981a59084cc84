import java.lang.reflect.Constructor;
import java.lang.reflect.Field;
import java.lang.reflect.Method;
import java.lang.reflect.Modifier;
import java.nio.charset.StandardCharsets;
import java.nio.file.Files;
import java.nio.file.Path;
import java.util.Set;
import java.util.TreeSet;
import java.util.regex.Matcher;
import java.util.regex.Pattern;

/** The rules of LANGUAGE.md that can be looked up in the source or in the class. */
public final class LanguageTest {
    private static final Set<String> FACE = Set.of("feed", "cut", "book", "wrong", "told", "about", "state", "letter",
        "body", "use", "argument", "act", "entry", "holder", "branch", "out", "cause", "start", "seen", "set", "add",
        "take", "join", "member", "map", "put", "get", "encode", "signal", "decode");
    private static int wrong;

    public static void main(String[] args) throws Exception {
        String source = Files.readString(Path.of("src/main/java/SignalBook.java"), StandardCharsets.UTF_8);
        String code = source.replaceAll("\"[^\"\n]*\"", "\"\"").replaceAll("(?s)/\\*.*?\\*/", "")
            .replaceAll("//[^\n]*", "");
        words(code);
        methods(code);
        face();
        insides();
        System.out.println(wrong == 0 ? "the rules are kept" : wrong + " rules are broken");
        if (wrong != 0) {
            System.exit(1);
        }
    }

    private static void rule(int number, boolean kept, String what) {
        if (!kept) {
            wrong++;
            System.out.println("rule " + number + ": " + what);
        }
    }

    private static void words(String code) {
        Matcher bad = Pattern.compile("\\b(throw|throws|try|catch|finally|synchronized|assert|hashCode|toString|"
            + "volatile|native|transient|Object|Random|Thread|Exception|Runtime|package|protected)\\b|->|::|@|\\[\\]\\[\\]")
            .matcher(code);
        while (bad.find()) {
            rule(6, false, bad.group());
        }
        Matcher imports = Pattern.compile("import ([^;]*);").matcher(code);
        while (imports.find()) {
            rule(4, imports.group(1).equals("java.util.Arrays"), imports.group());
        }
        Matcher library = Pattern.compile("\\b(System|Arrays|Math|Integer|Long|String)\\.(\\w+)").matcher(code);
        while (library.find()) {
            rule(4, Set.of("System.arraycopy", "Arrays.fill", "Math.max", "Math.min", "Integer.bitCount")
                .contains(library.group()), library.group());
        }
    }

    private static void methods(String code) {
        String[] lines = code.split("\n", -1);
        Pattern head = Pattern.compile("^( {4}| {8})(?:[\\w\\[\\]]+ )+(\\w+)\\(([^)]*)\\) \\{$");
        for (int from = 0; from < lines.length; from++) {
            Matcher m = head.matcher(lines[from]);
            if (m.find()) {
                int end = from;
                while (!lines[end].equals(m.group(1) + "}")) {
                    end++;
                }
                rule(11, end - from < 60, m.group(2) + " has " + (end - from + 1) + " lines");
                rule(11, m.group(3).split(",").length <= 7, m.group(2) + " takes " + m.group(3));
                boolean isPublic = lines[from].startsWith("    public");
                rule(1, isPublic == FACE.contains(m.group(2)) || m.group(2).equals("SignalBook"), "the name of " + m.group(2));
            }
        }
    }

    private static void face() {
        Set<String> open = new TreeSet<>();
        for (Method m : SignalBook.class.getDeclaredMethods()) {
            if (Modifier.isPublic(m.getModifiers())) {
                open.add(m.getName());
                rule(1, m.getReturnType() == int.class && !Modifier.isStatic(m.getModifiers()), m.getName());
            } else {
                rule(1, Modifier.isPrivate(m.getModifiers()) || m.isSynthetic(), m.getName());
            }
        }
        rule(1, open.equals(FACE), "the methods of the face: " + open);
        Set<String> constants = new TreeSet<>();
        for (Field f : SignalBook.class.getDeclaredFields()) {
            if (Modifier.isPublic(f.getModifiers())) {
                constants.add(f.getName());
            } else {
                rule(1, Modifier.isPrivate(f.getModifiers()), f.getName());
            }
        }
        rule(1, constants.equals(Set.of("NONE", "FULL", "FAILED", "BAD")), "the constants: " + constants);
        Constructor<?>[] made = SignalBook.class.getDeclaredConstructors();
        rule(1, made.length == 1 && made[0].getParameterCount() == 0, "the constructor");
        rule(1, Modifier.isFinal(SignalBook.class.getModifiers()), "the class is final");
    }

    private static void insides() {
        Class<?>[] inside = SignalBook.class.getDeclaredClasses();
        rule(11, inside.length + 1 <= 12, "classes: " + (inside.length + 1));
        for (Class<?> c : inside) {
            rule(2, Modifier.isStatic(c.getModifiers()), c.getName() + " is static");
            fields(c);
        }
        fields(SignalBook.class);
    }

    private static void fields(Class<?> c) {
        int count = 0;
        for (Field f : c.getDeclaredFields()) {
            boolean constant = Modifier.isStatic(f.getModifiers());
            count += constant ? 0 : 1;
            rule(5, !constant || Modifier.isFinal(f.getModifiers()), f.toString());
        }
        rule(11, count <= 20, c.getName() + " has " + count + " fields");
    }
}
