import java.nio.file.Files;
import java.nio.file.Path;
import java.util.List;
import java.util.regex.Matcher;
import java.util.regex.Pattern;

/** The source keeps to the rules of LANGUAGE.md that a plain look at its words can tell. */
public final class LanguageTest {
    private static final List<String> FORBIDDEN = List.of("\\bthrow\\b", "\\bthrows\\b", "\\btry\\b", "\\bcatch\\b",
        "\\bfinally\\b", "\\bsynchronized\\b", "\\bassert\\b", "\\bpackage\\b", "\\bprotected\\b", "\\bvolatile\\b",
        "\\bvar\\b", "->", "::", "\\bThread\\b", "\\bRandom\\b", "\\bSystem\\.(?!arraycopy\\b)\\w+",
        "Exact\\(", "\\.equals\\(", "hashCode", "toString", "static \\{", "/(?![/*])", "%");
    private static final List<String> FACE = List.of("type", "clear", "wires", "frames", "cuts", "heals", "cycles",
        "resets", "sets", "drifts", "measures", "undo", "drive", "link", "order", "result", "time", "reached", "would",
        "sees", "forget", "which", "ask", "keep", "back", "count");
    private static final Pattern METHOD = Pattern.compile(
        "^\\s+(public |private )?(static )?(int|boolean|void) (\\w+)\\(([^)]*)\\) \\{$");

    private static int wrong = 0;

    private static void fault(int line, String what) {
        wrong++;
        System.out.println("RingFrames.java:" + line + ": " + what);
    }

    public static void main(String[] args) throws Exception {
        List<String> lines = Files.readAllLines(Path.of("src/main/java/RingFrames.java"));
        boolean inComment = false;
        int methodBegan = -1;
        int classes = 0;
        String indent = "";
        for (int i = 0; i < lines.size(); i++) {
            String line = lines.get(i);
            String code = line.replaceAll("//.*", "").replaceAll("/\\*.*?\\*/", "");
            if (line.trim().startsWith("/**")) {
                inComment = true;
            }
            if (!inComment) {
                lookAtWords(i + 1, code);
            }
            if (line.contains("*/")) {
                inComment = false;
            }
            classes += code.contains(" class ") ? 1 : 0;
            Matcher m = METHOD.matcher(code);
            if (m.matches()) {
                methodBegan = i;
                indent = line.replaceAll("\\S.*", "");
                lookAtMethod(i + 1, m);
            } else if (methodBegan >= 0 && line.equals(indent + "}")) {
                if (i - methodBegan > 60) {
                    fault(methodBegan + 1, "a long method");
                }
                methodBegan = -1;
            }
        }
        if (classes > 12) {
            fault(1, "too many classes: " + classes);
        }
        if (wrong != 0) {
            System.exit(1);
        }
    }

    private static void lookAtWords(int line, String code) {
        for (String word : FORBIDDEN) {
            if (Pattern.compile(word).matcher(code).find()) {
                fault(line, "not in the language: " + word);
            }
        }
        if (code.startsWith("import ") && !code.equals("import java.util.Arrays;")) {
            fault(line, "not in the library");
        }
        if (code.chars().anyMatch(c -> c > 126)) {
            fault(line, "a sign beyond 126");
        }
    }

    private static void lookAtMethod(int line, Matcher m) {
        boolean shown = "public ".equals(m.group(1));
        if (shown != FACE.contains(m.group(4))) {
            fault(line, m.group(4) + " is of the face and not public, or public and not of the face");
        }
        if (m.group(5).split(",").length > 7) {
            fault(line, "too many parameters");
        }
    }
}
