import java.io.ByteArrayOutputStream;
import java.io.IOException;
import java.io.PrintStream;
import java.net.URL;
import java.net.URLClassLoader;
import java.nio.charset.StandardCharsets;
import java.nio.file.Files;
import java.nio.file.Path;
import java.util.ArrayList;
import java.util.List;
import java.util.regex.Matcher;
import java.util.regex.Pattern;
import java.util.stream.Stream;
import javax.tools.JavaCompiler;
import javax.tools.ToolProvider;

/** README.md: its example compiles with the class and prints what it says; it tells of each test. */
public final class ReadmeRuns {
    private static final Due DUE = new Due();
    private static final Pattern PRINTED = Pattern.compile("System\\.out\\.println\\((.*)\\);\\s*// (-?\\d+)\\b.*");

    public static void main(String[] args) throws Exception {
        String readme = Files.readString(Path.of("README.md"), StandardCharsets.UTF_8);
        example(block(readme));
        findings(readme);
        tests(readme);
        DUE.end();
    }

    /** The one block of Java. */
    private static String block(String readme) {
        int start = readme.indexOf("```java\n");
        int end = readme.indexOf("\n```", start + 1);
        DUE.holds("there is an example", start >= 0 && end >= 0);
        return start < 0 || end < 0 ? "" : readme.substring(start + "```java\n".length(), end + 1);
    }

    private static void example(String text) throws Exception {
        List<String> calls = new ArrayList<>();
        List<String> told = new ArrayList<>();
        for (String line : text.split("\n")) {
            Matcher m = PRINTED.matcher(line.trim());
            if (m.matches()) {
                calls.add(m.group(1));
                told.add(m.group(2));
            } else {
                DUE.holds("a row that prints tells what: " + line, !line.contains("println"));
            }
        }
        DUE.holds("the example prints", !calls.isEmpty());
        String[] printed = printedBy(text).split("\\R");
        DUE.is("rows that the example prints", printed.length, told.size());
        for (int i = 0; i < Math.min(printed.length, told.size()); i++) {
            DUE.holds("the README's " + calls.get(i) + " answers " + told.get(i) + ", not " + printed[i],
                told.get(i).equals(printed[i]));
        }
    }

    private static String printedBy(String text) throws Exception {
        Path room = Files.createTempDirectory("readme");
        try {
            Path source = Files.writeString(room.resolve("Example.java"), text, StandardCharsets.UTF_8);
            JavaCompiler javac = ToolProvider.getSystemJavaCompiler();
            DUE.holds("there is a compiler", javac != null);
            int failed = javac == null ? 1 : javac.run(null, null, null, "-encoding", "UTF-8", "-d", room.toString(),
                "src/main/java/RolledPicks.java", source.toString());
            DUE.is("compiling the example", failed, 0);
            return failed == 0 ? run(room) : "";
        } finally {
            remove(room);
        }
    }

    private static String run(Path room) throws Exception {
        PrintStream out = System.out;
        ByteArrayOutputStream printed = new ByteArrayOutputStream();
        try (URLClassLoader loader = new URLClassLoader(new URL[] {room.toUri().toURL()}, null)) {
            System.setOut(new PrintStream(printed, true, StandardCharsets.UTF_8));
            loader.loadClass("Example").getMethod("main", String[].class).invoke(null, (Object) new String[0]);
        } finally {
            System.setOut(out);
        }
        return printed.toString(StandardCharsets.UTF_8);
    }

    private static void remove(Path room) throws IOException {
        try (Stream<Path> files = Files.list(room)) {
            for (Path file : files.toList()) {
                Files.delete(file);
            }
        }
        Files.delete(room);
    }

    /** The findings that it lists are those of the document's terms. */
    private static void findings(String readme) {
        String[] names = {"BEYOND", "FULL", "KIND", "NONE", "STATE", "MISSING", "SIZE", "OVER"};
        for (int k = 0; k < names.length; k++) {
            String row = "\\| " + k + " \\| " + names[k] + " *\\| " + (-1000001 - k) + " *\\| " + (-1000000000000000001L - k) + " *\\|";
            DUE.holds("README.md tells of " + names[k], Pattern.compile(row).matcher(readme).find());
        }
    }

    private static void tests(String readme) throws IOException {
        try (Stream<Path> files = Files.list(Path.of("src/test/java"))) {
            for (Path file : files.toList()) {
                String name = file.getFileName().toString();
                if (name.endsWith(".java")) {
                    name = name.substring(0, name.length() - ".java".length());
                    DUE.holds("README.md tells of " + name, readme.contains("`" + name + "`"));
                }
            }
        }
    }
}
