import java.io.IOException;
import java.nio.charset.StandardCharsets;
import java.nio.file.DirectoryStream;
import java.nio.file.Files;
import java.nio.file.Path;
import java.util.Map;
import java.util.TreeMap;
import java.util.regex.Matcher;
import java.util.regex.Pattern;

/**
 * Each sentence of the document has a test of its own: the Edges tests tell in the document's words what each of
 * their runs is about, and all of its words are told so.
 */
public final class SentencesTest {
    private static final Path DOCUMENT = Path.of("../shared/DOC.md");
    private static final Path TESTS = Path.of("src/test/java");
    private static final String LITERAL = "\"((?:[^\"\\\\]|\\\\.)*)\"";
    private static final Pattern RUN = Pattern.compile(
        "Desk\\.on\\((\\d+),\\s*(" + LITERAL + "(?:\\s*\\+\\s*" + LITERAL + ")*)\\)");
    /** Where another sentence begins; a full stop among signs is one of them. */
    private static final Pattern SENTENCE_END = Pattern.compile("[\\w)]\\. [A-Z0-9]");
    private static int wrong;

    public static void main(String[] args) throws IOException {
        Map<Integer, String> sections = sections(Files.readString(DOCUMENT, StandardCharsets.UTF_8));
        Map<Integer, boolean[]> told = new TreeMap<>();
        sections.forEach((n, text) -> told.put(n, new boolean[text.length()]));
        int runs = 0;
        try (DirectoryStream<Path> files = Files.newDirectoryStream(TESTS, "Edges*.java")) {
            for (Path file : files) {
                runs += markRuns(Files.readString(file, StandardCharsets.UTF_8), sections, told);
            }
        }
        sections.forEach((n, text) -> lookForUntold(n, text, told.get(n)));
        System.out.println(runs + " runs about sentences of " + sections.size() + " parts; "
            + (wrong == 0 ? "all sentences are told" : wrong + " are wrong"));
        if (wrong != 0 || sections.size() != 32) {
            System.exit(1);
        }
    }

    /** The parts of the document by their promises, and (0) what is ahead of them; blanks are one blank each. */
    private static Map<Integer, String> sections(String document) {
        Map<Integer, String> found = new TreeMap<>();
        int section = 0;
        boolean inFace = false;
        StringBuilder part = new StringBuilder();
        for (String line : document.substring(document.indexOf("======== 1 "), document.indexOf("## Not promised"))
            .split("\n")) {
            Matcher head = Pattern.compile("## Promise (\\d+): .*").matcher(line);
            inFace = line.equals("```java") || inFace && !line.equals("```");
            if (head.matches()) {
                found.put(section, part.toString().trim());
                section = Integer.parseInt(head.group(1));
                part.setLength(0);
            } else if (!inFace && !line.startsWith("#") && !line.startsWith("```") && !line.startsWith("Ahead of")) {
                part.append(line.replaceAll("======== \\d (STARTS\\.)?|^`[^`]*`:", " ")).append(' ');
            }
        }
        found.put(section, part.toString().trim());
        found.replaceAll((n, text) -> text.replaceAll("\\s+", " "));
        return found;
    }

    private static int markRuns(String source, Map<Integer, String> sections, Map<Integer, boolean[]> told) {
        int runs = 0;
        Matcher run = RUN.matcher(source);
        while (run.find()) {
            runs++;
            int section = Integer.parseInt(run.group(1));
            StringBuilder sentence = new StringBuilder();
            Matcher literal = Pattern.compile(LITERAL).matcher(run.group(2));
            while (literal.find()) {
                sentence.append(literal.group(1));
            }
            if (SENTENCE_END.matcher(sentence).find()) {
                wrong++;
                System.out.println("more than one sentence: " + sentence);
            }
            int from = sections.getOrDefault(section, "").indexOf(sentence.toString());
            if (from < 0) {
                wrong++;
                System.out.println("not in part " + section + ": " + sentence);
                continue;
            }
            for (int k = 0; k < sentence.length(); k++) {
                told.get(section)[from + k] = true;
            }
        }
        return runs;
    }

    private static void lookForUntold(int section, String text, boolean[] told) {
        StringBuilder left = new StringBuilder();
        for (int k = 0; k < told.length; k++) {
            left.append(told[k] ? ' ' : text.charAt(k));
        }
        String untold = left.toString().replaceAll("[\\s,;]+", " ").trim();
        if (!untold.isEmpty()) {
            wrong++;
            System.out.println("no run is about this of part " + section + ": " + untold);
        }
    }
}
