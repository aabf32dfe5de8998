import java.io.IOException;
import java.lang.reflect.Method;
import java.lang.reflect.Modifier;
import java.nio.file.DirectoryStream;
import java.nio.file.Files;
import java.nio.file.Path;
import java.util.ArrayList;
import java.util.List;
import java.util.Set;
import java.util.TreeSet;

/** README.md tells how to use the class and how to run its tests, as both now stand. */
public final class ReadmeTest {
    private static final Path PLACE = Path.of("README.md");
    private static final Path TESTS = Path.of("src/test/java");

    public static void main(String[] args) throws IOException, InterruptedException {
        List<String> lines = Files.readAllLines(PLACE);
        example(lines);
        calls(lines);
        tests(lines);
        Due.end();
    }

    private static void example(List<String> lines) throws IOException, InterruptedException {
        Path out = Files.createTempDirectory("readme");
        Path program = out.resolve("Example.java");
        Files.writeString(program, block(lines, "java"));
        String told = run("javac", "-d", out.toString(), "src/main/java/GritWheels.java", program.toString());
        Due.holds("the program compiles without a word, not with: " + told, told.isEmpty());
        String want = block(lines, "text");
        String got = run("java", "-cp", out.toString(), "Example");
        Due.holds("the program prints " + want + "not " + got, want.equals(got) && !want.isEmpty());
        try (DirectoryStream<Path> files = Files.newDirectoryStream(out)) {
            for (Path file : files) {
                Files.delete(file);
            }
        }
        Files.delete(out);
    }

    /** The first block of this kind. */
    private static String block(List<String> lines, String kind) {
        int from = lines.indexOf("```" + kind) + 1;
        int length = lines.subList(from, lines.size()).indexOf("```");
        if (from == 0 || length < 0) {
            Due.tellWrong("no block of " + kind);
            return "";
        }
        return String.join("\n", lines.subList(from, from + length)) + "\n";
    }

    private static String run(String... command) throws IOException, InterruptedException {
        Process process = new ProcessBuilder(command).redirectErrorStream(true).start();
        String told = new String(process.getInputStream().readAllBytes());
        Due.is("exit code of " + command[0], 0, process.waitFor());
        return told.replace("\r\n", "\n");
    }

    /** A row for each public method, with as many parameters, and what it throws, in the document's order. */
    private static void calls(List<String> lines) {
        Set<String> want = new TreeSet<>();
        for (Method method : GritWheels.class.getDeclaredMethods()) {
            if (Modifier.isPublic(method.getModifiers())) {
                want.add(method.getName() + " " + method.getParameterCount() + " " + thrownBy(method));
            }
        }
        Set<String> got = new TreeSet<>();
        for (String line : lines) {
            if (line.matches("\\| `\\w+\\(.*\\)` \\|.*\\|")) {
                String[] cells = line.split("\\|");
                String[] call = cells[1].replace("`", "").strip().split("[(), ]+");
                got.add(call[0] + " " + (call.length - 1) + " " + cells[3].strip());
            }
        }
        Due.holds("the calls are " + want + ", not " + got, want.equals(got));
    }

    private static String thrownBy(Method method) {
        List<String> names = new ArrayList<>();
        for (Class<?> type : method.getExceptionTypes()) {
            names.add(type.getSimpleName().replaceFirst("OutOfBoundsException", "")
                .replaceFirst("^Illegal(\\w+)Exception", "$1"));
        }
        return String.join(", ", names);
    }

    private static void tests(List<String> lines) throws IOException {
        Set<String> got = new TreeSet<>();
        for (String line : lines) {
            if (line.matches("\\| `\\w+Test` \\|.*\\|")) {
                got.add(line.split("`")[1] + ".java");
            }
        }
        Set<String> want = new TreeSet<>();
        try (DirectoryStream<Path> files = Files.newDirectoryStream(TESTS, "*Test.java")) {
            for (Path file : files) {
                want.add(file.getFileName().toString());
            }
        }
        Due.holds("the tests are " + want + ", not " + got, want.equals(got));
        Due.holds("it tells .ci/run", lines.contains(".ci/run"));
    }
}
