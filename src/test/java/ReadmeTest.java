import java.io.IOException;
import java.lang.reflect.Method;
import java.lang.reflect.Modifier;
import java.net.URL;
import java.net.URLClassLoader;
import java.nio.file.Files;
import java.nio.file.Path;
import java.util.ArrayList;
import java.util.List;
import java.util.regex.Matcher;
import java.util.regex.Pattern;
import javax.tools.ToolProvider;

/** README.md: its example answers what stands there behind each call, and names every method of the face. */
public final class ReadmeTest {
    private static final Pattern ANSWERED =
        Pattern.compile("(x\\.\\w+\\(.*\\)); +// (true|false|-?[0-9]+(?:\\.[0-9]+)?)(?::.*)?");

    public static void main(String[] args) throws Exception {
        List<String> lines = Files.readAllLines(Path.of("README.md"));
        namesTheFace(String.join("\n", lines));
        answersAsItSays(example(lines));
        Check.end();
    }

    private static void namesTheFace(String readme) {
        for (Method m : InlinePlanner.class.getDeclaredMethods()) {
            if (Modifier.isPublic(m.getModifiers()) && !readme.contains(m.getName() + "(")) {
                Check.report("README.md does not name " + m.getName());
            }
        }
    }

    /** The lines of all pieces of Java, which are one example together. */
    private static List<String> example(List<String> lines) {
        List<String> all = new ArrayList<>();
        boolean inside = false;
        for (String line : lines) {
            if (line.startsWith("```")) {
                inside = line.equals("```java");
            } else if (inside) {
                all.add(line);
            }
        }
        return all;
    }

    private static void answersAsItSays(List<String> example) throws Exception {
        StringBuilder body = new StringBuilder();
        int answered = 0;
        for (String line : example) {
            Matcher m = ANSWERED.matcher(line);
            if (m.matches()) {
                answered++;
                body.append("due(\"").append(m.group(1)).append("\", \"").append(m.group(2)).append("\", ")
                    .append(m.group(1)).append(");\n");
            } else {
                body.append(line).append('\n');
            }
        }
        Check.due("there are calls with answers", true, answered >= 30);
        String wrong = run(body.toString());
        if (!wrong.isEmpty()) {
            Check.report(wrong);
        }
    }

    private static String run(String body) throws Exception {
        String source = "public final class ReadmeExample {\n"
            + "private static String wrong = \"\";\n"
            + "private static void due(String call, String want, Object got) {\n"
            + "if (!want.equals(String.valueOf(got))) { wrong += call + \" answered \" + got + \", due is \" + want + \"; \"; }\n"
            + "}\n"
            + "public static String run() {\n" + body + "return wrong;\n}\n}\n";
        Path out = Files.createTempDirectory("readme");
        try {
            Path file = Files.writeString(out.resolve("ReadmeExample.java"), source);
            int code = ToolProvider.getSystemJavaCompiler().run(null, null, null, "-d", out.toString(),
                "-cp", System.getProperty("java.class.path"), file.toString());
            return code == 0 ? call(out) : "the example does not compile";
        } finally {
            remove(out);
        }
    }

    private static String call(Path out) throws Exception {
        try (URLClassLoader loader = new URLClassLoader(new URL[] {out.toUri().toURL()})) {
            return (String) loader.loadClass("ReadmeExample").getMethod("run").invoke(null);
        }
    }

    private static void remove(Path out) throws IOException {
        Files.deleteIfExists(out.resolve("ReadmeExample.java"));
        Files.deleteIfExists(out.resolve("ReadmeExample.class"));
        Files.delete(out);
    }
}
