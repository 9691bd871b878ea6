import java.lang.reflect.Method;
import java.lang.reflect.Modifier;
import java.net.URL;
import java.net.URLClassLoader;
import java.nio.charset.StandardCharsets;
import java.nio.file.Files;
import java.nio.file.Path;
import java.util.regex.Matcher;
import java.util.regex.Pattern;
import java.util.stream.Stream;
import javax.tools.ToolProvider;

/** README.md: what its example tells is so, each call of the face is in its table, and what it names is there. */
public final class ReadmeTest {
    private static final Pattern BLOCK = Pattern.compile("(?s)```java\n(.*?)```");
    private static final Pattern ANSWERED = Pattern.compile("(x\\.\\w+\\([^;]*\\)); +// (-?\\w+).*");
    private static final int FEWEST_ANSWERS = 15;

    private final Check check = new Check("ReadmeTest");
    private final String page;

    private ReadmeTest(String page) {
        this.page = page;
    }

    public static void main(String[] args) throws Exception {
        ReadmeTest test = new ReadmeTest(Files.readString(Path.of("README.md"), StandardCharsets.UTF_8));
        test.lookAtExample();
        test.lookAtTable();
        test.lookAtTests();
        test.check.end();
    }

    private void lookAtExample() throws Exception {
        Path out = Files.createTempDirectory("readme");
        Path source = out.resolve("ReadmeExample.java");
        Files.writeString(source, exampleAsClass());
        int failed = ToolProvider.getSystemJavaCompiler().run(null, null, null, "-d", out.toString(),
            "-cp", System.getProperty("java.class.path"), source.toString());
        check.due("the example can be compiled, failures", failed, 0);
        if (failed == 0) {
            try (URLClassLoader loader = new URLClassLoader(new URL[] {out.toUri().toURL()})) {
                String told = (String) loader.loadClass("ReadmeExample").getMethod("told").invoke(null);
                for (String line : told.split("\n")) {
                    String[] parts = line.split("\t");
                    check.due(parts[0] + " answered " + parts[1] + ", README.md tells " + parts[2], parts[1].equals(parts[2]), true);
                }
                check.due("answers in the example", told.split("\n").length >= FEWEST_ANSWERS, true);
            }
        }
        try (Stream<Path> all = Files.list(out)) {
            for (Path each : all.toList()) {
                Files.delete(each);
            }
        }
        Files.delete(out);
    }

    // Blocks with a static method become methods, the others what is run, each answer told behind its call.
    private String exampleAsClass() {
        StringBuilder methods = new StringBuilder();
        StringBuilder lines = new StringBuilder();
        Matcher blocks = BLOCK.matcher(page);
        while (blocks.find()) {
            if (blocks.group(1).startsWith("static ")) {
                methods.append(blocks.group(1));
            } else {
                for (String line : blocks.group(1).split("\n")) {
                    lines.append(lineOfExample(line)).append('\n');
                }
            }
        }
        return "public final class ReadmeExample {\n" + methods + "public static String told() {\n"
            + "StringBuilder s = new StringBuilder();\n" + lines + "return s.toString();\n}\n}\n";
    }

    private static String lineOfExample(String line) {
        Matcher answered = ANSWERED.matcher(line);
        if (!answered.matches()) {
            return line;
        }
        String call = answered.group(1);
        return "s.append(\"" + call + "\\t\"); try { s.append(" + call + "); } catch (RuntimeException e) { "
            + "s.append(e.getClass().getSimpleName()); } s.append(\"\\t" + answered.group(2) + "\\n\");";
    }

    private void lookAtTable() {
        StringBuilder table = new StringBuilder();
        for (String line : page.split("\n")) {
            table.append(line.startsWith("| `") ? line.split("\\|")[1] : "");
        }
        for (Method method : SamePassers.class.getDeclaredMethods()) {
            if (Modifier.isPublic(method.getModifiers())) {
                check.due(method.getName() + " is in the table", table.indexOf("`" + method.getName() + "`") >= 0, true);
            }
        }
    }

    private void lookAtTests() {
        Matcher names = Pattern.compile("\\b([A-Z]\\w+Test)\\b").matcher(page);
        while (names.find()) {
            check.due(names.group(1) + " is there", Files.exists(Path.of("src/test/java", names.group(1) + ".java")), true);
        }
        check.due(".ci/run is named", page.contains("`.ci/run`"), true);
        check.due(".ci/run is there", Files.isExecutable(Path.of(".ci/run")), true);
    }
}
