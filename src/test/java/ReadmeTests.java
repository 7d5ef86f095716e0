import java.io.File;
import java.net.URL;
import java.net.URLClassLoader;
import java.nio.file.Files;
import java.nio.file.Path;
import java.lang.reflect.Method;
import java.lang.reflect.Modifier;
import java.util.ArrayList;
import java.util.List;
import java.util.regex.Matcher;
import java.util.regex.Pattern;
import javax.tools.ToolProvider;

/** README.md: the calls that it shows answer as it says, the command that it names is there, and so are the tests. */
public final class ReadmeTests extends Checks {
    private static final Pattern SHOWN = Pattern.compile("(\\S.*);\\s+// answers (\".*?\"|[^:\\s]+)(: .*)?");
    private static final Path PLACE = Path.of("build", "readme");

    /** The blocks of a language, each with its lines. */
    private static List<List<String>> blocks(List<String> readme, String language) {
        List<List<String>> blocks = new ArrayList<>();
        boolean inside = false;
        for (String line : readme) {
            if (!inside && line.equals("```" + language)) blocks.add(new ArrayList<>());
            else if (inside && !line.equals("```")) blocks.get(blocks.size() - 1).add(line);
            if (line.startsWith("```")) inside = line.equals("```" + language);
        }
        return blocks;
    }

    /** Java that makes the calls of the README, and keeps for each what it answers and what the README says. */
    private static String program(List<List<String>> blocks) {
        StringBuilder methods = new StringBuilder(), calls = new StringBuilder();
        for (List<String> block : blocks) {
            boolean helpers = block.get(0).startsWith("static ");
            for (String line : block) (helpers ? methods : calls).append(helpers ? line : call(line)).append('\n');
        }
        return "public class ReadmeUse {\n" + methods + "public static java.util.List<String[]> answers() {\n"
            + "java.util.List<String[]> seen = new java.util.ArrayList<>();\n" + calls + "return seen;\n}\n}\n";
    }

    private static String call(String line) {
        Matcher shown = SHOWN.matcher(line);
        if (!shown.matches()) return line;
        String call = shown.group(1), said = shown.group(2), name = call.replace("\\", "\\\\").replace("\"", "\\\"");
        return "seen.add(new String[] {\"" + name + "\", String.valueOf(" + call + "), String.valueOf(" + said + ")});";
    }

    private static void callsAnswer(List<List<String>> blocks) throws Exception {
        sentence("the calls that README.md shows answer as it says");
        Files.createDirectories(PLACE);
        Path source = PLACE.resolve("ReadmeUse.java");
        Files.writeString(source, program(blocks));
        String path = System.getProperty("java.class.path");
        int refused = ToolProvider.getSystemJavaCompiler().run(null, null, null, "-cp", path, "-d", PLACE.toString(), source.toString());
        due("javac of what README.md shows", refused, 0);
        if (refused != 0) return;
        try (URLClassLoader loader = new URLClassLoader(new URL[] {PLACE.toUri().toURL()})) {
            List<?> seen = (List<?>) loader.loadClass("ReadmeUse").getMethod("answers").invoke(null);
            due("calls are shown", seen.isEmpty() ? 0 : 1, 1);
            for (Object row : seen) due(((String[]) row)[0], ((String[]) row)[1], ((String[]) row)[2]);
        }
    }

    /** A call that is shown without its answer could be wrong unseen. */
    private static void callsSayTheirAnswers(List<List<String>> blocks) {
        sentence("README.md says what each call answers that it shows");
        for (List<String> block : blocks) {
            if (block.get(0).startsWith("static ")) continue;
            for (String line : block) {
                if (line.contains("tape.") || line.contains("(tape,")) due(line, SHOWN.matcher(line).matches() ? 1 : 0, 1);
            }
        }
    }

    private static void callsAreNamed(String text) {
        sentence("README.md names every call");
        for (Method method : IntervalTape.class.getDeclaredMethods()) {
            if (!Modifier.isPublic(method.getModifiers())) continue;
            due(method.getName(), text.contains("`" + method.getName() + "`") ? 1 : 0, 1);
        }
    }

    private static void testsAreNamed(String text) {
        sentence("README.md names the tests that there are, and no other");
        for (String name : new File("src/test/java").list()) {
            due(name, text.contains("`" + name.replace(".java", "") + "`") ? 1 : 0, 1);
        }
        Matcher named = Pattern.compile("`(\\w+(?:Tests|Oracle))`").matcher(text);
        while (named.find()) due(named.group(1), new File("src/test/java/" + named.group(1) + ".java").isFile() ? 1 : 0, 1);
    }

    private static void commandIsThere(List<List<String>> blocks) {
        sentence("the command that README.md names runs the tests");
        due("the first command", blocks.get(0).get(0), ".ci/run");
        due(".ci/run can be run", new File(".ci/run").canExecute() ? 1 : 0, 1);
    }

    public static void main(String[] args) throws Exception {
        List<String> readme = Files.readAllLines(Path.of("README.md"));
        String text = String.join("\n", readme);
        List<List<String>> java = blocks(readme, "java");
        callsAnswer(java);
        callsSayTheirAnswers(java);
        callsAreNamed(text);
        testsAreNamed(text);
        commandIsThere(blocks(readme, "sh"));
        finish();
    }
}
