import java.io.IOException;
import java.nio.charset.StandardCharsets;
import java.nio.file.Files;
import java.nio.file.Path;
import java.util.ArrayList;
import java.util.List;
import java.util.stream.Stream;

/** What README.md says is so: its example, its commands, its tables. */
final class ReadmeTest {
    private static final Due due = new Due("readme");
    private static final Path PAGE = Path.of("README.md");
    private static final Path SOURCE = Path.of("src/main/java/UnlikeDrawn.java");
    private static final Path TESTS = Path.of("src/test/java");

    public static void main(String[] args) throws IOException, InterruptedException {
        String page = Files.readString(PAGE);
        List<String> commands = blocks(page, "sh");
        due.is("blocks of commands", commands.size(), 3);
        if (commands.size() == 3) {
            example(page, commands.get(0));
            allTests(commands.get(1));
            oneTest(commands.get(2));
        }
        namesEveryTest(page);
        refusalsOfMostCalls(page);
        otherRefusals(page);
        due.end();
    }

    private static void holds(String what, boolean so) {
        due.is(what, so ? 1 : 0, 1);
    }

    /** The text between ```kind and ``` of each such block. */
    private static List<String> blocks(String page, String kind) {
        List<String> found = new ArrayList<>();
        StringBuilder block = null;
        for (String line : page.split("\n")) {
            if (line.equals("```" + kind)) {
                block = new StringBuilder();
            } else if (line.equals("```") && block != null) {
                found.add(block.toString());
                block = null;
            } else if (block != null) {
                block.append(line).append('\n');
            }
        }
        return found;
    }

    private static void example(String page, String commands) throws IOException, InterruptedException {
        List<String> code = blocks(page, "java");
        List<String> told = blocks(page, "text");
        due.is("examples", code.size(), 1);
        due.is("what examples tell", told.size(), 1);
        if (code.size() != 1 || told.size() != 1) {
            return;
        }
        Path folder = Files.createTempDirectory("readme");
        Files.createDirectories(folder.resolve(SOURCE).getParent());
        Files.copy(SOURCE, folder.resolve(SOURCE));
        Files.writeString(folder.resolve("Example.java"), code.get(0));
        due.same("the example tells", run(folder, commands), told.get(0));
        remove(folder);
    }

    /** It is not run from here, since it runs this test. */
    private static void allTests(String commands) {
        due.same("all tests are run by", commands, ".ci/run\n");
        holds(".ci/run can be run", Files.isExecutable(Path.of(".ci/run")));
    }

    private static void oneTest(String commands) throws IOException, InterruptedException {
        Path folder = Files.createTempDirectory("readme");
        Files.createDirectories(folder.resolve(SOURCE).getParent());
        Files.createDirectories(folder.resolve(TESTS));
        Files.copy(SOURCE, folder.resolve(SOURCE));
        try (Stream<Path> files = Files.list(TESTS)) {
            for (Path file : (Iterable<Path>) files::iterator) {
                Files.copy(file, folder.resolve(file));
            }
        }
        String told = run(folder, commands);
        holds("one test by itself: " + told, told.endsWith(" answers, 0 not as due\n"));
        remove(folder);
    }

    private static String run(Path folder, String commands) throws IOException, InterruptedException {
        Process process = new ProcessBuilder("sh", "-e", "-c", commands)
                .directory(folder.toFile()).redirectErrorStream(true).start();
        process.getOutputStream().close();
        String told = new String(process.getInputStream().readAllBytes(), StandardCharsets.UTF_8);
        due.is("exit code of " + commands, process.waitFor(), 0);
        return told;
    }

    private static void remove(Path folder) throws IOException {
        List<Path> all = new ArrayList<>();
        try (Stream<Path> files = Files.walk(folder)) {
            files.forEach(all::add);
        }
        for (int i = all.size() - 1; i >= 0; i--) {
            Files.delete(all.get(i));
        }
    }

    private static void namesEveryTest(String page) throws IOException {
        try (Stream<Path> files = Files.list(TESTS)) {
            for (Path file : (Iterable<Path>) files::iterator) {
                String name = file.getFileName().toString().replace(".java", "");
                holds("the page names " + name, page.matches("(?s).*\\b" + name + "\\b.*"));
            }
        }
    }

    private static void refusalsOfMostCalls(String page) {
        due.same("the table of refusals, first row", row(page, "most calls"),
                "| most calls | " + UnlikeDrawn.NONE + " | " + UnlikeDrawn.BAD + " | " + UnlikeDrawn.NOT + " | "
                + UnlikeDrawn.FULL + " | " + Due.NULL + " to " + Due.SIZE + " |");
    }

    private static String row(String page, String begin) {
        for (String line : page.split("\n")) {
            if (line.startsWith("| " + begin)) {
                return line;
            }
        }
        return "";
    }

    /** The rows of the table beside what a new object answers to a PART, HAND or SHEET that there is not. */
    private static void otherRefusals(String page) {
        UnlikeDrawn x = new UnlikeDrawn();
        x.head();
        String any = row(page, "`tenths`");
        holds("NONE and BAD of any number: " + any, any.contains("| " + Due.ANY_NONE + " | " + Due.ANY_BAD + " |"));
        due.is("tenths", x.tenths(4, 0), Due.ANY_BAD);
        due.is("drawn", x.drawn(4, 0, 1, 0), Due.ANY_BAD);
        due.is("line", x.line(0, 0), Due.ANY_BAD);
        due.is("leans", x.leans(0, 0), Due.ANY_BAD);
        due.is("back", x.back(0, 4, 0), Due.ANY_BAD);
        due.is("back of what was not drawn", x.back(0, 0, 0), Due.ANY_NONE);
        String longs = row(page, "`score`");
        holds("BAD and NOT of a long: " + longs, longs.contains("| the least long and 2 | the least long and 3 |"));
        due.is("score", x.score(0, 0, 0, 0), Long.MIN_VALUE + 2);
        due.is("grows", x.grows(1, 0, 0), Long.MIN_VALUE + 2);
        due.is("grows of what was not drawn", x.grows(0, 0, 0), Long.MIN_VALUE + 3);
        String item = row(page, "`get`");
        holds("BAD and FINDINGS of an item: " + item, item.contains("| the least int | | | the least int; `count(8)`"));
        due.is("get", x.get(4, 0, 0), Integer.MIN_VALUE);
        due.is("get of a LOST one", x.get(0, 0, 0), Integer.MIN_VALUE);
        due.is("count(8)", x.count(8), 1);
    }
}
