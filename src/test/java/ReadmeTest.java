import java.io.IOException;
import java.net.URL;
import java.net.URLClassLoader;
import java.nio.file.Files;
import java.nio.file.Path;
import java.util.ArrayList;
import java.util.List;
import java.util.regex.Matcher;
import java.util.regex.Pattern;
import java.util.stream.Stream;
import javax.tools.ToolProvider;

/** The examples of README.md compile as they stand, and each call answers what is told behind it. */
final class ReadmeTest {
    private static final Pattern EXAMPLE = Pattern.compile("(?s)```java\n(.*?)```");
    /** A call, perhaps one that is given a name, and behind it a comment that begins with its answer. */
    private static final Pattern TOLD = Pattern.compile("(int \\w+ = )?(x\\.\\w+\\(.*\\));\\s*// (-?\\d+)(:.*)?");

    private record Told(String call, long answer) {
    }

    private ReadmeTest() {
    }

    static void run(String root) {
        try {
            String page = Files.readString(Path.of(root, "README.md"));
            List<Long> answers = answers(program(page));
            List<Told> told = told(page);
            Due.isTrue(1, "README.md has examples", told.size() > 0 && told.size() == answers.size());
            for (int i = 0; i < told.size() && i < answers.size(); i++) {
                Due.is(1, "README.md: " + told.get(i).call, answers.get(i), told.get(i).answer);
            }
        } catch (IOException | ReflectiveOperationException e) {
            Due.isTrue(1, "the examples of README.md can be run: " + e, false);
        }
    }

    private static List<Told> told(String page) {
        List<Told> told = new ArrayList<>();
        Matcher example = EXAMPLE.matcher(page);
        while (example.find()) {
            for (String line : example.group(1).split("\n")) {
                Matcher m = TOLD.matcher(line);
                if (m.matches()) {
                    told.add(new Told(m.group(2), Long.parseLong(m.group(3))));
                }
                Due.isTrue(1, "README.md tells an answer: " + line, m.matches() || !line.startsWith("x."));
            }
        }
        return told;
    }

    /** A class whose method answers(List) adds what each told call answers, a method an example. */
    private static String program(String page) {
        StringBuilder program = new StringBuilder("import java.util.List;\npublic final class ReadmeExamples {\n");
        StringBuilder all = new StringBuilder("public static void answers(List<Long> to) {\n");
        Matcher example = EXAMPLE.matcher(page);
        for (int i = 0; example.find(); i++) {
            all.append("example").append(i).append("(to);\n");
            program.append("private static void example").append(i).append("(List<Long> to) {\n");
            for (String line : example.group(1).split("\n")) {
                program.append(noting(line)).append('\n');
            }
            program.append("}\n");
        }
        return program.append(all).append("}\n}\n").toString();
    }

    private static String noting(String line) {
        Matcher m = TOLD.matcher(line);
        if (!m.matches()) {
            return line;
        }
        if (m.group(1) == null) {
            return "to.add((long) " + m.group(2) + ");";
        }
        return line + "\nto.add((long) " + m.group(1).split(" ")[1] + ");";
    }

    private static List<Long> answers(String program) throws IOException, ReflectiveOperationException {
        Path place = Files.createTempDirectory("readme");
        try {
            compile(program, place);
            return answersOf(place);
        } finally {
            clear(place);
        }
    }

    private static void compile(String program, Path place) throws IOException {
        Path source = place.resolve("ReadmeExamples.java");
        Files.writeString(source, program);
        int code = ToolProvider.getSystemJavaCompiler().run(null, null, null, "--release", "17", "-cp",
            System.getProperty("java.class.path"), "-d", place.toString(), source.toString());
        Due.is(1, "javac of the examples of README.md", code, 0);
    }

    private static List<Long> answersOf(Path place) throws IOException, ReflectiveOperationException {
        List<Long> answers = new ArrayList<>();
        try (URLClassLoader loader = new URLClassLoader(new URL[] {place.toUri().toURL()}, ReadmeTest.class.getClassLoader())) {
            loader.loadClass("ReadmeExamples").getMethod("answers", List.class).invoke(null, answers);
        }
        return answers;
    }

    private static void clear(Path place) throws IOException {
        try (Stream<Path> files = Files.list(place)) {
            for (Path file : files.toList()) {
                Files.delete(file);
            }
        }
        Files.delete(place);
    }
}
