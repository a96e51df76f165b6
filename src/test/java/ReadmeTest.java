import java.io.IOException;
import java.net.URL;
import java.net.URLClassLoader;
import java.nio.file.Files;
import java.nio.file.Path;
import java.util.ArrayList;
import java.util.List;
import java.util.regex.Matcher;
import java.util.regex.Pattern;
import java.util.stream.Collectors;
import java.util.stream.Stream;
import javax.tools.JavaCompiler;
import javax.tools.ToolProvider;

/** What README.md says of use, of how the class is built and of how its tests are run is true. */
public final class ReadmeTest {
    private static final Due DUE = new Due("ReadmeTest");
    private static final Path TESTS = Path.of("src/test/java");
    private static final Pattern CALL =
        Pattern.compile("(?:int (\\w+) = )?(sky\\.(\\w+)\\(.*\\)); +// (-?\\d+|WreckSky\\.[A-Z]+)(: \\S.*)");
    private static final int MOST_CALLS = 512;

    public static void main(String[] args) throws Exception {
        String page = Files.readString(Path.of("README.md"));
        use(page);
        built(section(page, "How it is built"));
        tests(section(page, "Tests"));
        commands(page);
        DUE.end();
    }

    /** From its heading to the next one. */
    private static String section(String page, String heading) {
        Matcher m = Pattern.compile("(?ms)^## " + heading + "$(.*?)(?=^## |\\z)").matcher(page);
        boolean found = m.find();
        DUE.holds("there is a section '" + heading + "'", found);
        return found ? m.group(1) : "";
    }

    private static List<String> blocks(String page, String language) {
        List<String> found = new ArrayList<>();
        Matcher m = Pattern.compile("(?ms)^```" + language + "\n(.*?)^```$").matcher(page);
        while (m.find()) found.add(m.group(1));
        return found;
    }

    private static List<String> quoted(String text) {
        List<String> found = new ArrayList<>();
        Matcher m = Pattern.compile("`([^`\n]+)`").matcher(text);
        while (m.find()) found.add(m.group(1));
        return found;
    }

    /** Every line of code answers what stands beside it; none stands there without. */
    private static void use(String page) throws Exception {
        List<String> calls = new ArrayList<>();
        StringBuilder body = new StringBuilder();
        for (String line : String.join("", blocks(page, "java")).split("\n")) {
            if (line.equals("WreckSky sky = new WreckSky();")) {
                body.append(line).append('\n');
                continue;
            }
            Matcher m = CALL.matcher(line);
            boolean has = m.matches();
            DUE.holds("README.md has an answer beside '" + line + "'", has);
            if (!has) continue;
            String got = m.group(1) == null ? m.group(2) : m.group(1);
            if (m.group(1) != null) body.append("int ").append(got).append(" = ").append(m.group(2)).append(";\n");
            body.append("rows.add(new int[] {").append(got).append(", ").append(m.group(4)).append("});\n");
            calls.add(m.group(2));
        }
        DUE.holds("README.md shows calls, no more than an object is good for", !calls.isEmpty() && calls.size() <= MOST_CALLS);
        List<?> rows = answers(body.toString());
        DUE.is("calls that README.md shows and that were made", rows.size(), calls.size());
        for (int i = 0; i < Math.min(rows.size(), calls.size()); i++) {
            int[] row = (int[]) rows.get(i);
            DUE.is("README.md: " + calls.get(i), row[0], row[1]);
        }
    }

    /** The lines are compiled as they stand, as whoever takes them over would do it. */
    private static List<?> answers(String body) throws Exception {
        Path out = Files.createTempDirectory("readme");
        try {
            Path source = out.resolve("ReadmeUse.java");
            Files.writeString(source, "import java.util.*;\npublic final class ReadmeUse {\npublic static List<int[]> run() {\n"
                + "List<int[]> rows = new ArrayList<>();\n" + body + "return rows;\n}\n}\n");
            JavaCompiler javac = ToolProvider.getSystemJavaCompiler();
            int code = javac.run(null, null, null, "-cp", System.getProperty("java.class.path"), "-d", out.toString(), source.toString());
            DUE.is("javac of the lines in README.md", code, 0);
            if (code != 0) return List.of();
            try (URLClassLoader loader = new URLClassLoader(new URL[] {out.toUri().toURL()})) {
                return (List<?>) loader.loadClass("ReadmeUse").getMethod("run").invoke(null);
            }
        } finally {
            delete(out);
        }
    }

    private static void built(String text) throws IOException {
        String source = Files.readString(Path.of("src/main/java/WreckSky.java"));
        List<String> named = quoted(text);
        for (String name : named) {
            DUE.holds("README.md: there is a class " + name, Pattern.compile("\\bclass " + name + "\\b").matcher(source).find());
        }
        Matcher m = Pattern.compile("(?m)^ *(?:public |private )?(?:static )?final class (\\w+)").matcher(source);
        while (m.find()) {
            DUE.holds("README.md names the class " + m.group(1), named.contains(m.group(1)));
        }
    }

    private static void tests(String text) throws IOException {
        List<String> named = quoted(text);
        try (Stream<Path> files = Files.list(TESTS)) {
            for (Path file : files.sorted().collect(Collectors.toList())) {
                String name = file.getFileName().toString().replace(".java", "");
                DUE.holds("README.md names " + file, named.contains(name));
            }
        }
        for (String name : named) {
            if (name.matches("[A-Z]\\w*")) DUE.holds("README.md: there is " + name, Files.exists(TESTS.resolve(name + ".java")));
            if (name.contains("/")) DUE.holds("README.md: there is " + name, Files.exists(Path.of(name)));
        }
    }

    /** Whoever runs this has run .ci/run itself, or need not; all other commands are run as they stand. */
    private static void commands(String page) throws Exception {
        List<String> found = blocks(page, "sh");
        DUE.holds("README.md says how the tests are run", found.contains(".ci/run\n"));
        DUE.holds(".ci/run can be run", Files.isExecutable(Path.of(".ci/run")));
        for (String command : found) {
            if (command.equals(".ci/run\n")) continue;
            Path room = Files.createTempDirectory("readme");
            Path told = room.resolve("told.txt");
            ProcessBuilder builder = new ProcessBuilder("sh", "-ec", command).redirectErrorStream(true).redirectOutput(told.toFile());
            builder.environment().put("TMPDIR", room.toString());
            int code = builder.start().waitFor();
            DUE.is("README.md's commands: " + command, code, 0);
            if (code != 0) System.out.println(Files.readString(told));
            delete(room);
        }
    }

    private static void delete(Path directory) throws IOException {
        try (Stream<Path> files = Files.walk(directory)) {
            List<Path> all = files.collect(Collectors.toList());
            for (int i = all.size() - 1; i >= 0; i--) Files.delete(all.get(i));
        }
    }
}
