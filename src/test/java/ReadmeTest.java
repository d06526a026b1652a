import java.lang.reflect.Method;
import java.nio.file.Files;
import java.nio.file.Path;
import java.util.List;
import java.util.Set;
import java.util.TreeSet;
import java.util.regex.Matcher;
import java.util.regex.Pattern;

/** README.md: each call of its example answers what stands behind it, and each test is named. */
public final class ReadmeTest extends Check {
    private static final Pattern MADE = Pattern.compile("RingFrames x = new RingFrames\\(\\);");
    private static final Pattern TOLD = Pattern.compile("for \\(char c : \"([^\"]*)\"\\.toCharArray\\(\\)\\) x\\.type\\(c\\);");
    private static final Pattern CALLED = Pattern.compile("x\\.(\\w+)\\(([-\\d, ]*)\\); +// (-?\\d+)(:.*)?");
    private static final int LEAST_CALLS = 20;

    public static void main(String[] args) throws Exception {
        promise = "README.md";
        List<String> lines = Files.readAllLines(Path.of("README.md"));
        runExample(lines);
        namesEachTest(String.join("\n", lines));
        exitIfWrong();
    }

    private static void runExample(List<String> lines) throws Exception {
        RingFrames x = null;
        boolean inside = false;
        Set<String> called = new TreeSet<>();
        for (String line : lines) {
            if (line.startsWith("```")) {
                inside = line.equals("```java");
            } else if (inside && MADE.matcher(line).matches()) {
                x = new RingFrames();
            } else if (inside && !line.isEmpty()) {
                runLine(x, line, called);
            }
        }
        if (called.size() < LEAST_CALLS) {
            fault("the example uses only " + called);
        }
    }

    private static void runLine(RingFrames x, String line, Set<String> called) throws Exception {
        Matcher told = TOLD.matcher(line);
        Matcher call = CALLED.matcher(line);
        if (told.matches()) {
            typeAll(x, told.group(1));
            called.add("type");
        } else if (call.matches()) {
            due(line, answerOf(x, call.group(1), call.group(2)), Integer.parseInt(call.group(3)));
            called.add(call.group(1));
        } else {
            fault("not a call with its answer: " + line);
        }
    }

    private static int answerOf(RingFrames x, String name, String told) throws Exception {
        String[] words = told.isEmpty() ? new String[0] : told.split(", ");
        Class<?>[] kinds = new Class<?>[words.length];
        Object[] numbers = new Object[words.length];
        for (int i = 0; i < words.length; i++) {
            kinds[i] = int.class;
            numbers[i] = Integer.valueOf(words[i]);
        }
        Method method = RingFrames.class.getMethod(name, kinds);
        return (int) method.invoke(x, numbers);
    }

    private static void namesEachTest(String readme) throws Exception {
        try (var files = Files.list(Path.of("src/test/java"))) {
            for (Path file : files.toList()) {
                String name = file.getFileName().toString().replace(".java", "");
                if (!readme.contains("`" + name + "`")) {
                    fault("doesn't name " + name);
                }
            }
        }
    }
}
