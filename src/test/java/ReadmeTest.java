import java.io.IOException;
import java.lang.reflect.Method;
import java.lang.reflect.Modifier;
import java.net.URL;
import java.net.URLClassLoader;
import java.nio.file.Files;
import java.nio.file.Path;
import java.util.ArrayList;
import java.util.Comparator;
import java.util.List;
import java.util.function.Supplier;
import java.util.regex.Matcher;
import java.util.regex.Pattern;
import java.util.stream.Stream;
import javax.tools.ToolProvider;

/** README.md: its example answers as it says, its table names every call, and its list every test. */
final class ReadmeTest {
    /** A line of the example whose comment begins with the answer of its call. */
    private static final Pattern CALL = Pattern.compile("(?:int (\\w+) = )?(.+);\\s+// (-?\\d+)\\b.*");

    private final Check c = new Check("ReadmeTest");
    private final String readme;

    private ReadmeTest(String readme) {
        this.readme = readme;
    }

    public static void main(String[] args) throws IOException, ReflectiveOperationException {
        ReadmeTest test = new ReadmeTest(Files.readString(Path.of("README.md")));
        test.checkExample();
        test.checkNames();
        test.c.end();
    }

    private void checkExample() throws IOException, ReflectiveOperationException {
        List<String> calls = new ArrayList<>();
        List<Integer> due = new ArrayList<>();
        StringBuilder body = new StringBuilder();
        for (String line : between("```java\n", "```").split("\n")) {
            Matcher call = CALL.matcher(line);
            if (!call.matches()) {
                body.append(line).append('\n');
                continue;
            }
            calls.add(call.group(2));
            due.add(Integer.parseInt(call.group(3)));
            String name = "answer" + calls.size();
            body.append("int ").append(name).append(" = ").append(call.group(2)).append(";\n");
            body.append("answers.add(").append(name).append(");\n");
            if (call.group(1) != null) {
                body.append("int ").append(call.group(1)).append(" = ").append(name).append(";\n");
            }
        }
        List<Integer> got = answersOf(body.toString());
        c.same("how many calls the example answers", calls.size(), got.size());
        for (int i = 0; i < Math.min(calls.size(), got.size()); i++) {
            c.same("the example's " + calls.get(i), due.get(i), got.get(i));
        }
    }

    /** Compiles these statements and runs them. */
    @SuppressWarnings("unchecked")
    private List<Integer> answersOf(String body) throws IOException, ReflectiveOperationException {
        Path folder = Files.createTempDirectory("readme");
        try {
            Path source = folder.resolve("Example.java");
            Files.writeString(source, "import java.util.*;\n"
                    + "public final class Example implements java.util.function.Supplier<List<Integer>> {\n"
                    + "public List<Integer> get() {\nList<Integer> answers = new ArrayList<>();\n" + body + "return answers;\n}\n}\n");
            int code = ToolProvider.getSystemJavaCompiler().run(null, null, null, "-proc:none", "-cp", System.getProperty("java.class.path"), source.toString());
            c.same("the example compiles (0 for yes)", 0, code);
            if (code != 0) {
                return List.of();
            }
            try (URLClassLoader loader = new URLClassLoader(new URL[] {folder.toUri().toURL()})) {
                return ((Supplier<List<Integer>>) loader.loadClass("Example").getConstructor().newInstance()).get();
            }
        } finally {
            remove(folder);
        }
    }

    private static void remove(Path folder) throws IOException {
        try (Stream<Path> paths = Files.walk(folder)) {
            for (Path path : paths.sorted(Comparator.reverseOrder()).toList()) {
                Files.delete(path);
            }
        }
    }

    private void checkNames() throws IOException {
        String table = between("| calls |", "\n\n");
        for (Method method : RevealDeck.class.getDeclaredMethods()) {
            if (Modifier.isPublic(method.getModifiers())) {
                names("the table", table, method.getName());
            }
        }
        String tests = between("## Tests", "They use a `Run`");
        try (Stream<Path> paths = Files.list(Path.of("src/test/java"))) {
            for (Path path : paths.filter(path -> path.toString().endsWith("Test.java")).toList()) {
                names("the list of tests", tests, path.getFileName().toString().replace(".java", ""));
            }
        }
    }

    private void names(String where, String text, String name) {
        c.same(where + " names " + name + " (1 for yes)", 1, text.contains("`" + name + "`") ? 1 : 0);
    }

    /** What stands between these two; nothing if they are not there. */
    private String between(String before, String behind) {
        int start = readme.indexOf(before);
        int end = start < 0 ? -1 : readme.indexOf(behind, start + before.length());
        c.same("README.md has '" + before.trim() + "' (1 for yes)", 1, end < 0 ? 0 : 1);
        return end < 0 ? "" : readme.substring(start + before.length(), end);
    }
}
