import java.lang.reflect.Method;
import java.lang.reflect.Modifier;
import java.net.URL;
import java.net.URLClassLoader;
import java.nio.file.Files;
import java.nio.file.Path;
import java.util.List;
import java.util.Set;
import java.util.TreeSet;
import java.util.regex.Matcher;
import java.util.regex.Pattern;
import javax.tools.ToolProvider;

/**
 * The examples of README.md are Java, and each of their calls answers what stands behind it. They are made into a
 * class of their own, which is compiled and run: all blocks one behind the other, on the same objects.
 */
public final class ReadmeTest {
    private static final Path README = Path.of("README.md");
    private static final String NAME = "ReadmeExamples";
    private static final Pattern CALL = Pattern.compile("((?:\\w+\\.)?\\w+\\(.*\\)); +// (-?\\d+)(?::? .*)?");
    private static final Pattern OBJECT = Pattern.compile("FanTalk \\w+ = new FanTalk\\(\\);");
    private static final Pattern OF_AN_OBJECT = Pattern.compile("\\w+\\.(\\w+)\\(.*");
    private static final int MOST_CALLS = 512;

    private final StringBuilder main = new StringBuilder();
    private final StringBuilder methods = new StringBuilder();
    private final Set<String> called = new TreeSet<>();
    private int answers = 0;
    private int wrong = 0;

    public static void main(String[] args) throws Exception {
        ReadmeTest test = new ReadmeTest();
        test.takeExamples(Files.readAllLines(README));
        test.lookAtTheFace();
        test.makeTheCalls();
        System.out.println("README: " + test.answers + " calls of its examples, " + test.wrong + " wrong");
        if (test.wrong != 0 || test.answers == 0) {
            System.exit(1);
        }
    }

    private void hold(boolean holds, String told) {
        if (!holds) {
            wrong++;
            System.out.println("README.md: " + told);
        }
    }

    private void takeExamples(List<String> lines) {
        boolean inside = false;
        boolean method = false;
        for (int i = 0; i < lines.size(); i++) {
            String line = lines.get(i);
            if (line.startsWith("```")) {
                inside = line.equals("```java");
                method = inside && i + 1 < lines.size() && lines.get(i + 1).startsWith("static ");
            } else if (method) {
                methods.append(line).append('\n');
            } else if (inside) {
                takeLine(line.trim(), i + 1);
            }
        }
        hold(!inside, "an example has no end");
        hold(answers <= MOST_CALLS, "its examples are longer than an object is used for");
    }

    /** A line makes an object, or is a call with its answer; there is nothing else that would go unseen. */
    private void takeLine(String line, int number) {
        Matcher call = CALL.matcher(line);
        if (call.matches()) {
            answers++;
            Matcher of = OF_AN_OBJECT.matcher(call.group(1));
            if (of.matches()) {
                called.add(of.group(1));
            }
            main.append("due(\"line ").append(number).append(": ").append(quoted(call.group(1))).append("\", ")
                    .append(call.group(1)).append(", ").append(call.group(2)).append("L);\n");
        } else {
            hold(line.isEmpty() || OBJECT.matcher(line).matches(), "line " + number + " has no answer: " + line);
            main.append(line).append('\n');
        }
    }

    private static String quoted(String text) {
        return text.replace("\\", "\\\\").replace("\"", "\\\"");
    }

    private void lookAtTheFace() {
        for (Method m : FanTalk.class.getDeclaredMethods()) {
            if (Modifier.isPublic(m.getModifiers())) {
                hold(called.contains(m.getName()), "no example calls " + m.getName());
            }
        }
    }

    private String source() {
        return "public final class " + NAME + " {\n"
                + "private static int wrong = 0;\n"
                + "private static void due(String call, long got, long told) {\n"
                + "if (got != told) { wrong++; System.out.println(\"README.md, \" + call + \" answered \" + got"
                + " + \", told is \" + told); }\n}\n"
                + methods
                + "public static int run() {\n" + main + "return wrong;\n}\n}\n";
    }

    private void makeTheCalls() throws Exception {
        Path out = Files.createTempDirectory("readme");
        Path file = out.resolve(NAME + ".java");
        try {
            Files.writeString(file, source());
            int failed = ToolProvider.getSystemJavaCompiler().run(null, null, null, "-encoding", "UTF-8", "-proc:none",
                    "-cp", System.getProperty("java.class.path"), "-d", out.toString(), file.toString());
            hold(failed == 0, "its examples do not compile");
            if (failed == 0) {
                try (URLClassLoader loader = new URLClassLoader(new URL[] {out.toUri().toURL()})) {
                    wrong += (int) loader.loadClass(NAME).getMethod("run").invoke(null);
                }
            }
        } finally {
            Files.deleteIfExists(file);
            Files.deleteIfExists(out.resolve(NAME + ".class"));
            Files.deleteIfExists(out);
        }
    }
}
