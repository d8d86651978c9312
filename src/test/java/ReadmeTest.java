import java.io.IOException;
import java.lang.reflect.Method;
import java.lang.reflect.Modifier;
import java.nio.file.Files;
import java.nio.file.Path;
import java.util.Comparator;
import java.util.List;
import java.util.concurrent.TimeUnit;
import java.util.stream.Stream;

/** What README.md shows is so: its program prints what stands under it, and its table has every call. */
public final class ReadmeTest {
    private static final Due DUE = new Due();
    private static final Path README = Path.of("README.md");

    public static void main(String[] args) throws IOException {
        Cases.runAll(ReadmeTest.class, DUE);
    }

    static void programPrintsWhatStandsUnderIt() throws IOException, InterruptedException {
        List<String> program = block("```java");
        List<String> output = block("```text");
        DUE.yes("there is a program", !program.isEmpty());
        DUE.yes("there is its output", !output.isEmpty());
        Path room = Files.createTempDirectory("readme");
        try {
            List<String> printed = printedBy(program, room);
            DUE.yes("the program prints " + printed + ", README.md says " + output, printed.equals(output));
        } finally {
            delete(room);
        }
    }

    static void tableHasEveryCall() throws IOException {
        List<String> lines = Files.readAllLines(README);
        for (Method method : FillForecast.class.getDeclaredMethods()) {
            if (Modifier.isPublic(method.getModifiers())) {
                String start = "| `" + method.getName() + "(";
                long rows = lines.stream().filter(line -> line.startsWith(start)).count();
                DUE.same("rows of the table for " + method.getName(), rows, 1);
            }
        }
    }

    static void everyTestIsNamed() throws IOException {
        String text = Files.readString(README);
        try (Stream<Path> files = Files.list(Path.of("src", "test", "java"))) {
            for (Path file : files.toList()) {
                String name = file.getFileName().toString().replace(".java", "");
                if (name.endsWith("Test")) {
                    DUE.yes("README.md names " + name, text.contains("- `" + name + "`:"));
                }
            }
        }
        DUE.yes("README.md says how all are run", text.contains(".ci/run"));
    }

    /** The lines of the first block that begins so. */
    private static List<String> block(String mark) throws IOException {
        List<String> lines = Files.readAllLines(README);
        int start = lines.indexOf(mark);
        if (start < 0) {
            return List.of();
        }
        List<String> rest = lines.subList(start + 1, lines.size());
        int end = rest.indexOf("```");
        return end < 0 ? List.of() : rest.subList(0, end);
    }

    private static List<String> printedBy(List<String> program, Path room) throws IOException, InterruptedException {
        Path source = Files.write(room.resolve("Example.java"), program);
        Path printed = room.resolve("printed.txt");
        boolean well = endsWell(printed, "javac", "--release", "17", "-encoding", "UTF-8", "-d", room.toString(),
                "src/main/java/FillForecast.java", source.toString())
                && endsWell(printed, "java", "-cp", room.toString(), "Example");
        DUE.yes("the program compiles and runs", well);
        return Files.readAllLines(printed);
    }

    /** Only what is printed as output is kept: what a machine adds as a warning is no matter of the program. */
    private static boolean endsWell(Path printed, String... command) throws IOException, InterruptedException {
        Process process = new ProcessBuilder(command).redirectError(ProcessBuilder.Redirect.INHERIT)
                .redirectOutput(printed.toFile()).start();
        boolean ended = process.waitFor(120, TimeUnit.SECONDS);
        if (!ended) {
            process.destroyForcibly();
        }
        return ended && process.exitValue() == 0;
    }

    private static void delete(Path room) throws IOException {
        try (Stream<Path> files = Files.walk(room)) {
            for (Path file : files.sorted(Comparator.reverseOrder()).toList()) {
                Files.delete(file);
            }
        }
    }
}
