import java.lang.reflect.InvocationTargetException;
import java.lang.reflect.Method;
import java.lang.reflect.Modifier;
import java.net.URL;
import java.net.URLClassLoader;
import java.nio.file.Files;
import java.nio.file.Path;
import java.util.ArrayList;
import java.util.List;
import java.util.regex.Matcher;
import java.util.regex.Pattern;
import java.util.stream.Stream;
import javax.tools.ToolProvider;

/** Runs the pieces of README.md: what stands behind a call must be its answer. */
public final class ReadmeTest {
    private static final Pattern PIECE = Pattern.compile("```java\n(.*?)```", Pattern.DOTALL);
    private static final Pattern ASKED = Pattern.compile("(?:int (\\w+) = )?(x\\.\\w+\\(.*\\)); *// (-?\\d+)(?::.*)?");

    private ReadmeTest() {}

    public static void main(String[] args) throws Exception {
        String readme = Files.readString(Path.of("README.md"));
        List<String> wrong = new ArrayList<>();
        int asked = run(program(readme, wrong), wrong);
        for (Method m : CourtVans.class.getDeclaredMethods()) {
            if (Modifier.isPublic(m.getModifiers()) && !names(readme, m.getName())) {
                wrong.add("README.md doesn't name " + m.getName());
            }
        }
        try (Stream<Path> tests = Files.list(Path.of("src/test/java"))) {
            tests.map(p -> p.getFileName().toString().replace(".java", ""))
                .filter(n -> n.endsWith("Test") && !readme.contains("`" + n))
                .forEach(n -> wrong.add("README.md doesn't name " + n));
        }
        wrong.forEach(System.out::println);
        System.out.println(asked + " calls of README.md, " + wrong.size() + " wrong");
        if (asked == 0 || !wrong.isEmpty()) {
            System.exit(1);
        }
    }

    private static boolean names(String readme, String method) {
        return readme.contains("x." + method + "(") || readme.contains("`" + method + "`");
    }

    /** One class of all pieces; what isn't a call with its answer stays as it is written. */
    private static String program(String readme, List<String> wrong) {
        StringBuilder b = new StringBuilder();
        b.append("public final class Pieces {\nprivate static void due(java.util.List<String> wrong, String call, int got, int want) {\n");
        b.append("if (got != want) { wrong.add(call + \" answered \" + got + \", README.md says \" + want); } }\n");
        b.append("public static int run(java.util.List<String> wrong) {\nint asked = 0;\n");
        Matcher piece = PIECE.matcher(readme);
        while (piece.find()) {
            for (String line : piece.group(1).split("\n")) {
                Matcher m = ASKED.matcher(line);
                if (!m.matches()) {
                    if (line.contains("//")) {
                        wrong.add("no answer behind: " + line);
                    }
                    b.append(line).append('\n');
                    continue;
                }
                String call = m.group(2);
                String got = m.group(1) == null ? call : m.group(1);
                if (m.group(1) != null) {
                    b.append("int ").append(got).append(" = ").append(call).append(";\n");
                }
                b.append("asked++; due(wrong, \"").append(call).append("\", ").append(got).append(", ").append(m.group(3)).append(");\n");
            }
        }
        return b.append("return asked; } }\n").toString();
    }

    private static int run(String program, List<String> wrong) throws Exception {
        Path dir = Files.createTempDirectory("readme");
        Path file = dir.resolve("Pieces.java");
        try {
            Files.writeString(file, program);
            int code = ToolProvider.getSystemJavaCompiler().run(null, null, null, "-proc:none", "-d", dir.toString(),
                "-cp", System.getProperty("java.class.path"), file.toString());
            if (code != 0) {
                wrong.add("the pieces don't compile");
                return 0;
            }
            try (URLClassLoader loader = new URLClassLoader(new URL[] {dir.toUri().toURL()})) {
                return (int) loader.loadClass("Pieces").getMethod("run", List.class).invoke(null, wrong);
            } catch (InvocationTargetException e) {
                wrong.add("a piece throws " + e.getCause());
                return 0;
            }
        } finally {
            Files.deleteIfExists(dir.resolve("Pieces.class"));
            Files.deleteIfExists(file);
            Files.deleteIfExists(dir);
        }
    }
}
