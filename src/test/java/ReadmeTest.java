import java.io.IOException;
import java.lang.reflect.Method;
import java.lang.reflect.Modifier;
import java.net.URL;
import java.net.URLClassLoader;
import java.nio.file.Files;
import java.nio.file.Path;
import java.util.ArrayList;
import java.util.List;
import java.util.TreeSet;
import java.util.regex.Matcher;
import java.util.regex.Pattern;
import java.util.stream.Collectors;
import java.util.stream.Stream;
import javax.tools.ToolProvider;

/** What README.md shows: its calls are compiled and made, and answer as it says; to be run in the project's root. */
public final class ReadmeTest {
    private static final Check CHECK = new Check("ReadmeTest");
    /** A call, and the answer that stands in its comment ahead of the colon. */
    private static final Pattern SHOWN = Pattern.compile("(int (\\w+) = )?(x\\.(\\w+)\\(.*\\)); *// ([^:]*)(: .*)?");
    private static final String NOTHING = "nothing", THROWS = "throws ";

    /** The lines of the README between the fences of that language. */
    private static List<String> block(List<String> readme, String language) {
        List<String> lines = new ArrayList<>();
        boolean isInside = false;
        for (String line : readme) {
            if (line.startsWith("```")) {
                isInside = line.equals("```" + language);
            } else if (isInside) {
                lines.add(line);
            }
        }
        return lines;
    }

    /** The Java that makes the call of a line and keeps its answer. */
    private static String kept(Matcher shown) {
        String call = shown.group(3);
        String due = shown.group(5);
        if (shown.group(2) != null) {
            return shown.group(1) + call + "; answers.add(String.valueOf(" + shown.group(2) + "));";
        }
        String made = due.equals(NOTHING) || due.startsWith(THROWS)
                ? call + "; answers.add(\"" + NOTHING + "\");" : "answers.add(String.valueOf(" + call + "));";
        return "try { " + made + " } catch (RuntimeException e) { answers.add(\"" + THROWS
                + "\" + e.getClass().getSimpleName()); }";
    }

    private static List<?> answers(String body) throws IOException, ReflectiveOperationException {
        Path folder = Files.createTempDirectory("readme");
        Path source = folder.resolve("ReadmeCalls.java");
        Files.writeString(source, "public final class ReadmeCalls {\npublic static java.util.List<String> made() {\n"
                + "java.util.List<String> answers = new java.util.ArrayList<>();\n" + body + "return answers;\n}\n}\n");
        int failed = ToolProvider.getSystemJavaCompiler().run(null, null, null, "-proc:none", "-cp",
                System.getProperty("java.class.path"), "-d", folder.toString(), source.toString());
        CHECK.due("whether the calls compile", 0, () -> failed);
        List<?> answers = List.of();
        if (failed == 0) {
            try (URLClassLoader loader = new URLClassLoader(new URL[] {folder.toUri().toURL()})) {
                answers = (List<?>) loader.loadClass("ReadmeCalls").getMethod("made").invoke(null);
            }
        }
        Files.deleteIfExists(folder.resolve("ReadmeCalls.class"));
        Files.delete(source);
        Files.delete(folder);
        return answers;
    }

    private static void calls(List<String> readme) throws IOException, ReflectiveOperationException {
        StringBuilder body = new StringBuilder();
        List<Matcher> all = new ArrayList<>();
        for (String line : block(readme, "java")) {
            Matcher shown = SHOWN.matcher(line);
            boolean isCall = shown.matches();
            if (isCall) {
                all.add(shown);
            }
            CHECK.due("whether an answer is shown: " + line, true, () -> isCall || !line.contains("x."));
            body.append(isCall ? kept(shown) : line).append('\n');
        }
        List<?> answers = answers(body.toString());
        CHECK.due("how many answers there are", all.size(), () -> answers.size());
        for (int i = 0; i < Math.min(all.size(), answers.size()); i++) {
            int number = i;
            CHECK.due(all.get(i).group(3), all.get(i).group(5).trim(), () -> answers.get(number));
        }
        TreeSet<String> face = new TreeSet<>();
        for (Method method : Throughcoach.class.getDeclaredMethods()) {
            if (Modifier.isPublic(method.getModifiers())) {
                face.add(method.getName());
            }
        }
        CHECK.due("which methods are shown", face,
                () -> all.stream().map(shown -> shown.group(4)).collect(Collectors.toCollection(TreeSet::new)));
    }

    private static void tests(List<String> readme) throws IOException {
        TreeSet<String> due = new TreeSet<>();
        try (Stream<Path> files = Files.list(Path.of("src/test/java"))) {
            files.map(file -> file.getFileName().toString()).filter(name -> name.endsWith("Test.java"))
                    .forEach(name -> due.add(name.substring(0, name.length() - ".java".length())));
        }
        TreeSet<String> told = new TreeSet<>();
        Pattern row = Pattern.compile("\\| `(\\w+)` \\|.*");
        for (String line : readme) {
            Matcher matcher = row.matcher(line);
            if (matcher.matches()) {
                told.add(matcher.group(1));
            }
        }
        CHECK.due("which tests the table names", due, () -> told);
    }

    /** Each file that a command names is there. */
    private static void commands(List<String> readme) {
        for (String line : block(readme, "sh")) {
            for (String word : line.split(" ")) {
                if (word.contains("/")) {
                    Path file = Path.of(word.replace("/*.java", ""));
                    CHECK.due("whether there is " + word, true, () -> Files.exists(file));
                }
            }
        }
        CHECK.due("whether .ci/run can be run", true, () -> Files.isExecutable(Path.of(".ci/run")));
    }

    public static void main(String[] args) throws IOException, ReflectiveOperationException {
        List<String> readme = Files.readAllLines(Path.of("README.md"));
        calls(readme);
        tests(readme);
        commands(readme);
        CHECK.end();
    }
}
