import java.io.IOException;
import java.lang.reflect.Method;
import java.lang.reflect.Modifier;
import java.net.URL;
import java.net.URLClassLoader;
import java.nio.file.Files;
import java.nio.file.Path;
import java.util.ArrayList;
import java.util.List;
import java.util.regex.Matcher;
import java.util.regex.Pattern;
import javax.tools.ToolProvider;

/**
 * The calls that README.md shows compile, and the answer behind each "// ->" is the one that
 * the class gives. The blocks of one README are one run of calls, in their order.
 */
public final class ReadmeTest {
    private static final Due DUE = new Due();
    private static final Pattern ANSWERED =
            Pattern.compile("\\s*(heap\\.(\\w+)\\(.*\\));\\s*// -> (\\S+).*");

    public static void main(String[] args) throws Exception {
        List<String> lines = linesOfBlocks(Files.readAllLines(Path.of("README.md")));
        List<String> calls = new ArrayList<>();
        List<String> due = new ArrayList<>();
        List<String> names = new ArrayList<>();
        String source = source(lines, calls, due, names);
        List<Object> answers = answers(source);
        DUE.is("answers", answers.size(), due.size());
        for (int i = 0; i < Math.min(answers.size(), due.size()); i++) {
            DUE.yes(calls.get(i) + " answers " + answers.get(i) + ", README.md says " + due.get(i)
                    + ":", due.get(i).equals(String.valueOf(answers.get(i))));
        }
        everyCallIsShown(names);
        everyTestIsNamed();
        DUE.end();
    }

    private static List<String> linesOfBlocks(List<String> readme) {
        List<String> lines = new ArrayList<>();
        boolean inside = false;
        for (String line : readme) {
            if (line.startsWith("```")) {
                inside = line.equals("```java");
            } else if (inside) {
                lines.add(line);
            }
        }
        return lines;
    }

    private static String source(List<String> lines, List<String> calls, List<String> due,
            List<String> names) {
        StringBuilder source = new StringBuilder("public final class ReadmeCalls {\n"
                + "public static void run(java.util.List<Object> answers) {\n");
        for (String line : lines) {
            Matcher answered = ANSWERED.matcher(line);
            if (answered.matches()) {
                source.append("answers.add(").append(answered.group(1)).append(");\n");
                calls.add(answered.group(1));
                names.add(answered.group(2));
                due.add(answered.group(3));
            } else {
                DUE.no("an answer that is not read: " + line, line.contains("->"));
                source.append(line).append("\n");
            }
        }
        return source.append("}\n}\n").toString();
    }

    /** Compiled for itself, with nothing but the class, as a reader of README.md would do. */
    private static List<Object> answers(String source) throws Exception {
        List<Object> answers = new ArrayList<>();
        Path made = Files.createTempDirectory("readme");
        try {
            Path file = Files.writeString(made.resolve("ReadmeCalls.java"), source);
            int code = ToolProvider.getSystemJavaCompiler().run(null, null, null,
                    "-cp", System.getProperty("java.class.path"), "-d", made.toString(),
                    file.toString());
            DUE.is("compiling the calls of README.md", code, 0);
            if (code == 0) {
                try (URLClassLoader loader =
                        new URLClassLoader(new URL[] {made.toUri().toURL()})) {
                    loader.loadClass("ReadmeCalls").getMethod("run", List.class)
                            .invoke(null, answers);
                }
            }
        } finally {
            remove(made);
        }
        return answers;
    }

    private static void remove(Path directory) throws IOException {
        try (var files = Files.list(directory)) {
            for (Path file : files.toList()) {
                Files.delete(file);
            }
        }
        Files.delete(directory);
    }

    private static void everyCallIsShown(List<String> names) {
        for (Method method : HeapSteps.class.getDeclaredMethods()) {
            if (Modifier.isPublic(method.getModifiers())) {
                DUE.yes("README.md shows " + method.getName() + " with its answer",
                        names.contains(method.getName()));
            }
        }
    }

    private static void everyTestIsNamed() throws IOException {
        String readme = Files.readString(Path.of("README.md"));
        try (var files = Files.list(Path.of("src/test/java"))) {
            for (Path file : files.toList()) {
                String name = file.getFileName().toString().replace(".java", "");
                DUE.yes("README.md names " + name, readme.contains("`" + name + "`"));
            }
        }
    }
}
