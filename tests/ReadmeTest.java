import java.io.IOException;
import java.net.URL;
import java.net.URLClassLoader;
import java.nio.file.Files;
import java.nio.file.Path;
import java.util.regex.Matcher;
import java.util.regex.Pattern;
import javax.tools.ToolProvider;

/** The example of README.md answers as it tells, and the page names every call of the face. */
public final class ReadmeTest {
    private static final Pattern ANSWERED = Pattern.compile("(stamp\\..*);\\s*// (-?[0-9]+)[: ].*");
    private static final String FENCE = "```";
    private static int answers = 0;

    public static void main(String[] args) throws IOException, ReflectiveOperationException {
        String page = Files.readString(Path.of("README.md"));
        run(page);
        for (java.lang.reflect.Method method : StampDater.class.getDeclaredMethods()) {
            if (java.lang.reflect.Modifier.isPublic(method.getModifiers())) {
                Check.due("README.md names " + method.getName(), page.contains("`" + method.getName() + "(") ? 1 : 0, 1);
            }
        }
        Check.end("ReadmeTest");
    }

    /** Open to the example, which another loader brings, so that it can't see Check. */
    public static void due(String call, int got, int want) {
        Check.due(call, got, want);
    }

    private static void run(String page) throws IOException, ReflectiveOperationException {
        Path build = Files.createTempDirectory("readme");
        Path source = build.resolve("Example.java");
        Path compiled = build.resolve("Example.class");
        try {
            Files.writeString(source, classOf(page));
            Check.due("the example's answers are found", answers > 0 ? 1 : 0, 1);
            int failed = ToolProvider.getSystemJavaCompiler().run(null, null, null, "-proc:none", "-cp",
                    System.getProperty("java.class.path"), "-d", build.toString(), source.toString());
            Check.due("the example compiles", failed, 0);
            if (failed == 0) {
                URL[] places = {build.toUri().toURL()};
                try (URLClassLoader loader = new URLClassLoader(places, ReadmeTest.class.getClassLoader())) {
                    loader.loadClass("Example").getMethod("run").invoke(null);
                }
            }
        } finally {
            Files.deleteIfExists(source);
            Files.deleteIfExists(compiled);
            Files.deleteIfExists(build);
        }
    }

    /** A class that does the example, each answer that the page tells being compared. */
    private static String classOf(String page) {
        StringBuilder text = new StringBuilder("public final class Example { public static void run() {\n");
        int begin = page.indexOf(FENCE + "java") + FENCE.length() + "java".length();
        String example = page.substring(begin, page.indexOf(FENCE, begin));
        for (String line : example.split("\n")) {
            Matcher answered = ANSWERED.matcher(line);
            if (answered.matches()) {
                answers++;
                String call = answered.group(1);
                text.append("ReadmeTest.due(\"README.md: ").append(call).append("\", ").append(call).append(", ")
                        .append(answered.group(2)).append(");\n");
            } else {
                text.append(line).append('\n');
            }
        }
        return text.append("} }\n").toString();
    }
}
