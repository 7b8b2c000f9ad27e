import java.io.File;
import java.io.IOException;
import java.lang.reflect.Field;
import java.lang.reflect.Method;
import java.lang.reflect.Modifier;
import java.net.URL;
import java.net.URLClassLoader;
import java.nio.file.Files;
import java.nio.file.Path;
import java.util.List;
import java.util.regex.Matcher;
import java.util.regex.Pattern;
import java.util.stream.Stream;
import javax.tools.ToolProvider;

// What README.md says of the program holds: its example runs and answers as it tells, and it names every call
// with as many arguments as the call takes, every refusal with its number, and every test.
public final class ReadmeTest {
    private static final Pattern EXAMPLE = Pattern.compile("```java\\n(.*?)```", Pattern.DOTALL);
    private static final Pattern ANSWER = Pattern.compile("^( *)(w\\.\\w+\\(.*\\)); +// (-?\\d+): .*$");
    private static final int LEAST_ANSWERS = 15;

    private static int wrong = 0;

    public static void main(String[] args) throws Exception {
        String readme = Files.readString(Path.of("README.md"));
        namesEveryCall(readme);
        namesEveryRefusal(readme);
        namesEveryTest(readme);
        exampleAnswers(readme);
        System.out.println(wrong == 0 ? "ReadmeTest: all as told" : "ReadmeTest: " + wrong + " not as told");
        if (wrong != 0) {
            System.exit(1);
        }
    }

    private static void told(boolean so, String what) {
        if (!so) {
            wrong++;
            System.out.println("README.md: " + what);
        }
    }

    private static void namesEveryCall(String readme) {
        for (Method m : WellBack.class.getDeclaredMethods()) {
            if (Modifier.isPublic(m.getModifiers())) {
                Matcher named = Pattern.compile("`" + m.getName() + "\\(([^)]*)\\)`").matcher(readme);
                boolean found = named.find();
                told(found, "does not name " + m.getName());
                if (found) {
                    int arguments = named.group(1).isEmpty() ? 0 : named.group(1).split(",").length;
                    told(arguments == m.getParameterCount(), "gives " + m.getName() + " " + arguments + " arguments");
                }
            }
        }
    }

    private static void namesEveryRefusal(String readme) throws IllegalAccessException {
        for (Field f : WellBack.class.getFields()) {
            if (f.getType() == int.class) {
                String named = "`" + f.getName() + "` (" + f.getInt(null);
                told(readme.contains(named), "does not say " + named);
            }
        }
    }

    private static void namesEveryTest(String readme) {
        for (String file : new File("src/test/java").list()) {
            String name = file.replace(".java", "");
            told(readme.contains("- `" + name + "`: "), "does not say what " + name + " tests");
        }
    }

    private static void exampleAnswers(String readme) throws Exception {
        Matcher example = EXAMPLE.matcher(readme);
        if (!example.find()) {
            told(false, "has no example");
            return;
        }
        int answers = 0;
        StringBuilder program = new StringBuilder("public final class Example {\n    public static int wrong = 0;\n"
            + "    private static void due(String call, long got, long want) {\n        if (got != want) {\n"
            + "            wrong++;\n            System.out.println(\"README.md: \" + call + \" answers \" + got + \", it says \" + want);\n"
            + "        }\n    }\n    public static void run() {\n");
        for (String line : example.group(1).split("\n")) {
            Matcher answer = ANSWER.matcher(line);
            if (answer.matches()) {
                answers++;
                String call = answer.group(2);
                line = "due(\"" + call + "\", " + call + ", " + answer.group(3) + "L);";
            }
            program.append(line).append('\n');
        }
        told(answers >= LEAST_ANSWERS, "tells only " + answers + " answers");
        wrong += run(program.append("    }\n}\n").toString());
    }

    private static int run(String program) throws Exception {
        Path folder = Files.createTempDirectory("readme");
        try {
            Path source = folder.resolve("Example.java");
            Files.writeString(source, program);
            int failed = ToolProvider.getSystemJavaCompiler().run(null, null, null, "--release", "17", "-cp",
                System.getProperty("java.class.path"), "-d", folder.toString(), source.toString());
            if (failed != 0) {
                System.out.println("README.md: its example does not compile");
                return 1;
            }
            try (URLClassLoader loader = new URLClassLoader(new URL[] {folder.toUri().toURL()})) {
                Class<?> example = loader.loadClass("Example");
                example.getMethod("run").invoke(null);
                return example.getField("wrong").getInt(null);
            }
        } finally {
            clear(folder);
        }
    }

    private static void clear(Path folder) throws IOException {
        List<Path> files;
        try (Stream<Path> all = Files.list(folder)) {
            files = all.toList();
        }
        for (Path file : files) {
            Files.delete(file);
        }
        Files.delete(folder);
    }
}
