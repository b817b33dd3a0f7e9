import java.io.IOException;
import java.net.URL;
import java.net.URLClassLoader;
import java.nio.file.Files;
import java.nio.file.Path;
import java.util.ArrayList;
import java.util.List;
import java.util.regex.Matcher;
import java.util.regex.Pattern;
import java.util.stream.Stream;
import javax.tools.ToolProvider;

/** README.md: its lines of Java are compiled and run, and each answer must be the one that it tells. */
public final class ReadmeTest {
    private static final Check C = new Check();
    private static final Pattern BLOCK = Pattern.compile("(?s)```java\n(.*?)```");
    private static final Pattern TOLD =
            Pattern.compile("(?:int (\\w+) = )?(town\\..*?);\\s*// (-?\\d+|true|false): \\S.*");

    private static int told;

    public static void main(String[] args) throws Exception {
        String page = Files.readString(Path.of("README.md"));
        C.part("README.md");
        List<String> blocks = new ArrayList<>();
        Matcher m = BLOCK.matcher(page);
        while (m.find()) {
            blocks.add(m.group(1));
        }
        C.due("blocks of Java", blocks.size(), 2);
        if (blocks.size() == 2) {
            run(program(blocks.get(0), blocks.get(1)));
            C.yes("answers are told", told > 40);
        }
        namesEveryTest(page);
        C.end();
    }

    /** A line that tells its answer becomes one that compares it. */
    private static String program(String helper, String lines) {
        StringBuilder all = new StringBuilder("public final class ReadmeLines {\n");
        all.append("static final StringBuilder WRONG = new StringBuilder();\n");
        all.append("static void due(String line, Object got, Object want) {\n");
        all.append("if (!got.equals(want)) WRONG.append(line + \" answered \" + got + \"\\n\"); }\n");
        all.append(helper);
        all.append("public static String run() {\n");
        for (String line : lines.split("\n")) {
            Matcher m = TOLD.matcher(line);
            boolean tells = m.matches();
            boolean keeps = tells && m.group(1) != null;
            if (!tells || keeps) {
                all.append(line).append('\n');
            }
            if (tells) {
                told++;
                String got = keeps ? m.group(1) : m.group(2);
                String name = m.group(2).replace("\\", "\\\\").replace("\"", "\\\"");
                all.append("due(\"" + name + "\", " + got + ", " + m.group(3) + ");\n");
            } else {
                C.no("a call without its answer: " + line, line.contains("town.") && !line.isBlank());
            }
        }
        return all.append("return WRONG.toString(); }\n}\n").toString();
    }

    private static void run(String program) throws Exception {
        Path dir = Files.createTempDirectory("readme");
        Path source = dir.resolve("ReadmeLines.java");
        try {
            Files.writeString(source, program);
            int failed = ToolProvider.getSystemJavaCompiler().run(null, null, null, "-d", dir.toString(),
                    "-cp", System.getProperty("java.class.path"), source.toString());
            C.due("compiling its lines", failed, 0);
            if (failed == 0) {
                try (URLClassLoader loader = new URLClassLoader(new URL[] {dir.toUri().toURL()})) {
                    Object wrong = loader.loadClass("ReadmeLines").getMethod("run").invoke(null);
                    C.yes("wrong answers: " + wrong, wrong.equals(""));
                }
            }
        } finally {
            Files.deleteIfExists(source);
            Files.deleteIfExists(dir.resolve("ReadmeLines.class"));
            Files.deleteIfExists(dir);
        }
    }

    private static void namesEveryTest(String page) throws IOException {
        C.yes("how tests are run", page.contains("    .ci/run\n"));
        try (Stream<Path> files = Files.list(Path.of("src/test/java"))) {
            for (Path file : files.toList()) {
                String name = file.getFileName().toString().replace(".java", "");
                if (name.endsWith("Test")) {
                    C.yes("names " + name, page.contains("- `" + name + "`: "));
                }
            }
        }
    }
}
