import java.io.IOException;
import java.lang.reflect.Method;
import java.net.URL;
import java.net.URLClassLoader;
import java.nio.file.Files;
import java.nio.file.Path;
import java.util.ArrayList;
import java.util.List;
import java.util.regex.Matcher;
import java.util.regex.Pattern;
import java.util.stream.Stream;
import javax.tools.ToolProvider;

/** The examples of README.md, compiled as they stand there and run: each call answers what is told beside it. */
public final class ReadmeTest {
    private static final Pattern ANSWERED = Pattern.compile("(q\\.\\w+\\(.*\\)); +// (-?\\d+)(: .*)?");
    private static int wrong = 0;

    private ReadmeTest() { }

    private static void look(boolean holds, String what) {
        if (!holds) {
            wrong++;
            System.out.println("README.md: " + what);
        }
    }

    public static void main(String[] args) throws Exception {
        Path source = Path.of(args.length > 0 ? args[0] : "src/main/java/QuietCut.java").toAbsolutePath();
        List<String> lines = Files.readAllLines(source.resolve("../../../../README.md").normalize());
        StringBuilder methods = new StringBuilder();
        StringBuilder statements = new StringBuilder();
        for (List<String> block : blocks(lines)) {
            boolean isMethods = block.get(0).startsWith("static ");
            for (String line : block) {
                (isMethods ? methods : statements).append(isMethods ? line : statementOf(line)).append('\n');
            }
        }
        everyCallIsShown(methods.toString() + statements);
        run(programOf(methods, statements));
        System.out.println(wrong == 0 ? "README.md: all examples are as due" : wrong + " examples are not as due");
        if (wrong != 0) {
            System.exit(1);
        }
    }

    private static List<List<String>> blocks(List<String> lines) {
        List<List<String>> blocks = new ArrayList<>();
        boolean inside = false;
        for (String line : lines) {
            if (line.startsWith("```")) {
                inside = !inside && line.equals("```java");
                if (inside) {
                    blocks.add(new ArrayList<>());
                }
            } else if (inside) {
                blocks.get(blocks.size() - 1).add(line);
            }
        }
        blocks.removeIf(List::isEmpty);
        look(blocks.size() > 1, "there are no examples");
        return blocks;
    }

    private static String statementOf(String line) {
        Matcher m = ANSWERED.matcher(line);
        if (m.matches()) {
            return "due(\"" + m.group(1) + "\", " + m.group(1) + ", " + m.group(2) + ");";
        }
        look(!line.startsWith("q."), "no answer stands beside " + line);
        return line;
    }

    private static void everyCallIsShown(String examples) {
        for (Method m : QuietCut.class.getDeclaredMethods()) {
            if (java.lang.reflect.Modifier.isPublic(m.getModifiers())) {
                look(examples.contains("q." + m.getName() + "("), "no example has " + m.getName() + "()");
            }
        }
    }

    private static String programOf(CharSequence methods, CharSequence statements) {
        return "public final class ReadmeExamples {\n" + methods
                + "static int wrong = 0;\n"
                + "static void due(String call, int got, int want) {\n"
                + "if (got != want) { wrong++; System.out.println(\"README.md: \" + call + \" answered \" + got + \", told is \" + want); }\n"
                + "}\n"
                + "public static int countWrong() {\n" + statements + "return wrong;\n}\n}\n";
    }

    private static void run(String program) throws Exception {
        Path folder = Files.createTempDirectory("readme");
        try {
            Path file = Files.writeString(folder.resolve("ReadmeExamples.java"), program);
            int exit = ToolProvider.getSystemJavaCompiler().run(null, null, null, "-cp", System.getProperty("java.class.path"), "-d", folder.toString(), file.toString());
            look(exit == 0, "the examples do not compile");
            if (exit == 0) {
                try (URLClassLoader loader = new URLClassLoader(new URL[] {folder.toUri().toURL()})) {
                    wrong += (int) loader.loadClass("ReadmeExamples").getMethod("countWrong").invoke(null);
                }
            }
        } finally {
            removeAll(folder);
        }
    }

    private static void removeAll(Path folder) throws IOException {
        try (Stream<Path> files = Files.list(folder)) {
            for (Path file : files.toList()) {
                Files.delete(file);
            }
        }
        Files.delete(folder);
    }
}
