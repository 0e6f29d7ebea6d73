import java.net.URL;
import java.net.URLClassLoader;
import java.nio.charset.StandardCharsets;
import java.nio.file.Files;
import java.nio.file.Path;
import java.util.ArrayList;
import java.util.List;
import java.util.regex.Matcher;
import java.util.regex.Pattern;
import javax.tools.JavaCompiler;
import javax.tools.ToolProvider;

/** The examples of README.md, compiled and run as they stand there: each answers what it says. */
public final class ReadmeTest {
    // a call on t, the name it is kept under, and the answer behind it
    private static final Pattern CALL = Pattern.compile("(?:int (\\w+) = )?(t\\.\\w+\\(.*\\)); *// (-?\\d+).*");
    private static int wrong = 0;
    private static int asked = 0;

    public static void due(String line, long got, long want) {
        asked++;
        if (got != want) {
            wrong++;
            System.out.println("README.md: " + line + " answered " + got);
        }
    }

    public static void main(String[] args) throws Exception {
        String readme = Files.readString(Path.of("README.md"), StandardCharsets.UTF_8);
        run(program(examples(readme)));
        if (asked < 20) {
            wrong++;
            System.out.println("only " + asked + " answers stand in README.md");
        }
        System.out.println(wrong == 0 ? "all " + asked + " answers of README.md are as told" : wrong + " things are not as told");
        if (wrong != 0) {
            System.exit(1);
        }
    }

    private static List<String> examples(String readme) {
        List<String> lines = new ArrayList<>();
        Matcher block = Pattern.compile("```java\n(.*?)```", Pattern.DOTALL).matcher(readme);
        while (block.find()) {
            lines.addAll(List.of(block.group(1).split("\n")));
        }
        return lines;
    }

    private static String program(List<String> lines) {
        StringBuilder text = new StringBuilder("public final class Examples { public static void run() {\n");
        for (String line : lines) {
            Matcher call = CALL.matcher(line);
            if (!call.matches()) {
                text.append(line).append('\n');
                continue;
            }
            String answer = call.group(2);
            if (call.group(1) != null) {
                text.append("int ").append(call.group(1)).append(" = ").append(answer).append(";\n");
                answer = call.group(1);
            }
            text.append("ReadmeTest.due(\"").append(call.group(2)).append("\", ").append(answer).append(", ")
                .append(call.group(3)).append("L);\n");
        }
        return text.append("} }\n").toString();
    }

    private static void run(String program) throws Exception {
        JavaCompiler compiler = ToolProvider.getSystemJavaCompiler();
        Path folder = Files.createTempDirectory("readme");
        Path file = folder.resolve("Examples.java");
        Files.writeString(file, program);
        String classes = System.getProperty("java.class.path");
        int refused = compiler == null ? 1 : compiler.run(null, null, null, "-cp", classes, "-d", folder.toString(), file.toString());
        if (refused != 0) {
            wrong++;
            System.out.println("the examples of README.md can't be compiled");
        } else {
            try (URLClassLoader loader = new URLClassLoader(new URL[] {folder.toUri().toURL()})) {
                loader.loadClass("Examples").getMethod("run").invoke(null);
            }
        }
        for (String name : List.of("Examples.class", "Examples.java")) {
            Files.deleteIfExists(folder.resolve(name));
        }
        Files.delete(folder);
    }
}
