import java.io.IOException;
import java.net.URL;
import java.net.URLClassLoader;
import java.nio.file.Files;
import java.nio.file.Path;
import java.util.ArrayList;
import java.util.List;
import java.util.regex.Matcher;
import java.util.regex.Pattern;
import javax.tools.ToolProvider;

/** The Java of README.md is compiled and run: each line that tells an answer must have it. */
public final class ReadmeTest {
    private static final Pattern BLOCK = Pattern.compile("(?s)```java\n(.*?)```");
    private static final Pattern ANSWERED = Pattern.compile("(.*);\\s*// answers (-?\\w+).*");

    public static void main(String[] args) throws IOException, ReflectiveOperationException {
        String page = Files.readString(Path.of(System.getProperty("whiteline.readme")));
        StringBuilder helpers = new StringBuilder();
        StringBuilder body = new StringBuilder();
        List<String> calls = new ArrayList<>();
        List<String> due = new ArrayList<>();
        Matcher block = BLOCK.matcher(page);
        while (block.find()) {
            if (block.group(1).startsWith("static")) {
                helpers.append(block.group(1));
                continue;
            }
            for (String line : block.group(1).split("\n")) {
                Matcher answered = ANSWERED.matcher(line);
                if (answered.matches()) {
                    calls.add(answered.group(1));
                    due.add(answered.group(2));
                    body.append("all.add(").append(answered.group(1)).append(");\n");
                } else {
                    body.append(line).append('\n');
                }
            }
        }
        List<?> got = run(helpers.toString(), body.toString());
        Due.is("lines with an answer", due.size(), got.size());
        for (int k = 0; k < Math.min(due.size(), got.size()); k++) {
            String is = String.valueOf(got.get(k));
            Due.is("README.md: " + calls.get(k) + " answered " + is + " where " + due.get(k) + " is told", true,
                    is.equals(due.get(k)));
        }
        Due.end("ReadmeTest");
    }

    private static List<?> run(String helpers, String body) throws IOException, ReflectiveOperationException {
        Path directory = Files.createTempDirectory("readme");
        Path file = directory.resolve("ReadmeUse.java");
        Files.writeString(file, "public final class ReadmeUse {\n" + helpers
                + "public static java.util.List<Object> answers() {\n"
                + "java.util.List<Object> all = new java.util.ArrayList<>();\n" + body + "return all;\n}\n}\n");
        int failed = ToolProvider.getSystemJavaCompiler().run(null, null, null, "-cp",
                System.getProperty("java.class.path"), "-d", directory.toString(), file.toString());
        Due.is("README.md's Java compiles", 0, failed);
        if (failed != 0) {
            return List.of();
        }
        try (URLClassLoader loader = new URLClassLoader(new URL[] {directory.toUri().toURL()})) {
            return (List<?>) loader.loadClass("ReadmeUse").getMethod("answers").invoke(null);
        } finally {
            Files.delete(directory.resolve("ReadmeUse.class"));
            Files.delete(file);
            Files.delete(directory);
        }
    }
}
