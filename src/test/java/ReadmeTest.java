import java.io.IOException;
import java.lang.reflect.Method;
import java.nio.charset.StandardCharsets;
import java.nio.file.Files;
import java.nio.file.Path;
import java.util.Set;
import java.util.TreeSet;
import java.util.regex.Matcher;
import java.util.regex.Pattern;

/** README.md: its calls answer what it says, and it names each call of the face. */
public final class ReadmeTest {
    private static final Pattern ROW = Pattern.compile("x\\.(\\w+)\\(([^)]*)\\);\\s*// (-?\\d+)(,.*)?");

    public static void main(String[] args) throws IOException, ReflectiveOperationException {
        String readme = Files.readString(Path.of("README.md"), StandardCharsets.UTF_8);
        int from = readme.indexOf("```java\n") + "```java\n".length();
        String[] rows = readme.substring(from, readme.indexOf("```", from)).split("\n");
        Desk d = new Desk("README.md");
        d.due("rows that make an object", rows[0].equals("SignalBook x = new SignalBook();") ? 1 : 0, 1);
        for (int k = 1; k < rows.length; k++) {
            Matcher row = ROW.matcher(rows[k]);
            boolean isCall = row.matches();
            d.due(rows[k] + " is a call", isCall ? 1 : 0, 1);
            if (isCall) {
                d.due(rows[k], call(d.x, row.group(1), row.group(2)), Integer.parseInt(row.group(3)));
            }
        }
        for (String name : namesOfFace()) {
            d.due("README.md names " + name, readme.contains("`" + name + "`") ? 1 : 0, 1);
        }
        Desk.end();
    }

    private static Set<String> namesOfFace() {
        Set<String> names = new TreeSet<>();
        for (Method m : SignalBook.class.getMethods()) {
            if (m.getDeclaringClass() == SignalBook.class) {
                names.add(m.getName());
            }
        }
        return names;
    }

    private static int call(SignalBook x, String name, String told) throws ReflectiveOperationException {
        String[] texts = told.isEmpty() ? new String[0] : told.split(", ");
        for (Method m : SignalBook.class.getMethods()) {
            if (m.getName().equals(name) && m.getParameterCount() == texts.length) {
                Object[] values = new Object[texts.length];
                for (int k = 0; k < texts.length; k++) {
                    long value = Long.decode(texts[k].replace("L", ""));
                    if (m.getParameterTypes()[k] == long.class) {
                        values[k] = value;
                    } else {
                        values[k] = (int) value;
                    }
                }
                return (int) m.invoke(x, values);
            }
        }
        throw new NoSuchMethodException(name);
    }
}
