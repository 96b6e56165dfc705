import java.io.IOException;
import java.lang.reflect.Method;
import java.lang.reflect.Modifier;
import java.nio.charset.StandardCharsets;
import java.nio.file.Files;
import java.nio.file.Path;
import java.util.ArrayList;
import java.util.List;
import java.util.regex.Matcher;
import java.util.regex.Pattern;

/**
 * Does what README.md shows: its program and commands as they stand, and its calls, which it turns
 * into a program of checks. It is called with the program's path, README.md's and a room for files.
 */
public final class ReadmeTest {
    private static final String FENCE = "```";
    private static final Pattern SHOWN_CALL = Pattern.compile(
            "^(?:\\w+ (\\w+) = )?(.+);\\s+// (throws \\w+|-?\\w+)(?:: .+)?$");
    /** The part of the program of checks that does not come from README.md. */
    private static final String ANSWER_CHECK = """
            static boolean isWrong = false;

            interface Call {
                Object run();
            }

            static void check(int line, String due, Call call) {
                String got;
                try {
                    got = String.valueOf(call.run());
                } catch (RuntimeException e) {
                    got = "throws " + e.getClass().getSimpleName();
                }
                if (!got.equals(due)) {
                    isWrong = true;
                    System.out.println("README.md, line " + line + ": got " + got + ", it says " + due);
                }
            }
            """;

    /** A fenced block of README.md: its kind, its lines, and the number of the first one. */
    private record Block(String kind, List<String> lines, int firstLine) {
        boolean isProgram() {
            return kind.equals("java") && lines.stream().anyMatch(line -> line.contains(" class "));
        }

        boolean hasCalls() {
            return kind.equals("java") && !isProgram();
        }

        String text() {
            return String.join("\n", lines) + "\n";
        }
    }

    /** How a command ended, and what it printed; its complaints go where the test's own go. */
    private record Ending(int status, String output) {
    }

    private final Path program;
    private final Path room;
    private final List<Block> blocks;

    private ReadmeTest(Path program, Path readme, Path room) throws IOException {
        this.program = program;
        this.room = room;
        blocks = blocksOf(Files.readAllLines(readme));
    }

    public static void main(String[] args) throws IOException, InterruptedException {
        ReadmeTest test = new ReadmeTest(Path.of(args[0]), Path.of(args[1]), Path.of(args[2]));
        test.everyBlockIsTested();
        test.theProgram();
        test.theCalls();
        test.everyMethodIsShown();
        test.theTestCommand();
        Check.end();
    }

    private static List<Block> blocksOf(List<String> lines) {
        List<Block> blocks = new ArrayList<>();
        int start = -1;
        for (int i = 0; i < lines.size(); i++) {
            if (lines.get(i).startsWith(FENCE) && start < 0) {
                start = i;
            } else if (lines.get(i).startsWith(FENCE)) {
                String kind = lines.get(start).substring(FENCE.length());
                blocks.add(new Block(kind, lines.subList(start + 1, i), start + 2));
                start = -1;
            }
        }
        Check.isTrue("each block of README.md has an end", start < 0);
        return blocks;
    }

    private List<Block> blocksOf(String kind) {
        return blocks.stream().filter(block -> block.kind.equals(kind)).toList();
    }

    /** Beside the calls there are the program, its commands, its output, and the tests' command. */
    private void everyBlockIsTested() {
        long calls = blocks.stream().filter(Block::hasCalls).count();
        Check.equal("programs", blocks.stream().filter(Block::isProgram).count(), 1L);
        Check.isTrue("there are calls", calls > 0);
        Check.equal("blocks of commands", blocksOf("sh").size(), 2);
        Check.equal("blocks of output", blocksOf("text").size(), 1);
        Check.equal("other blocks", blocks.size() - calls - 4, 0L);
    }

    private void theProgram() throws IOException, InterruptedException {
        Path copy = room.resolve("src/main/java").resolve(program.getFileName());
        Files.createDirectories(copy.getParent());
        Files.copy(program, copy);
        for (Block block : blocks) {
            if (block.isProgram()) {
                Files.writeString(room.resolve("Example.java"), block.text());
            }
        }
        Ending ending = run("sh", "-e", "-c", blocksOf("sh").get(0).text());
        Check.equal("the program's output", ending.output, blocksOf("text").get(0).text());
        Check.equal("the end of the program's commands", ending.status, 0);
    }

    private void theCalls() throws IOException, InterruptedException {
        StringBuilder source = new StringBuilder("public final class ReadmeCalls {\n");
        source.append(ANSWER_CHECK).append("public static void main(String[] args) {\n");
        for (Block block : blocks) {
            if (block.hasCalls()) {
                addChecks(block, source);
            }
        }
        source.append("System.exit(isWrong ? 1 : 0);\n}\n}\n");
        Files.writeString(room.resolve("ReadmeCalls.java"), source);
        Ending compiled = run("javac", "-d", "calls", program.toAbsolutePath().toString(),
                "ReadmeCalls.java");
        Check.equal("the end of javac over the calls", compiled.status, 0);
        Ending ending = run("java", "-cp", "calls", "ReadmeCalls");
        Check.equal("wrong answers", ending.output, "");
        Check.equal("the end of the calls", ending.status, 0);
    }

    /** Turns each line that shows an answer into a check, and takes the other lines as they are. */
    private static void addChecks(Block block, StringBuilder source) {
        for (int i = 0; i < block.lines.size(); i++) {
            String line = block.lines.get(i);
            int number = block.firstLine + i;
            Matcher shown = SHOWN_CALL.matcher(line);
            boolean isShown = shown.matches();
            Check.isTrue("line " + number + " has an answer that can be read",
                    isShown || !line.contains("//"));
            boolean isCallOfItsOwn = isShown && shown.group(1) == null;
            if (!isCallOfItsOwn) {
                source.append(line).append('\n');
            }
            if (isShown) {
                String call = isCallOfItsOwn ? shown.group(2) : shown.group(1);
                source.append("check(").append(number).append(", \"").append(shown.group(3))
                        .append("\", () -> ").append(call).append(");\n");
            }
        }
    }

    private void everyMethodIsShown() {
        for (Method method : RaggedColumns.class.getDeclaredMethods()) {
            if (Modifier.isPublic(method.getModifiers())) {
                Check.isTrue(method.getName() + " is shown with its answer", isShown(method.getName()));
            }
        }
    }

    private boolean isShown(String method) {
        return blocks.stream().filter(Block::hasCalls).flatMap(block -> block.lines.stream())
                .anyMatch(line -> line.contains("." + method + "(")
                        && SHOWN_CALL.matcher(line).matches());
    }

    /** It can't be run from here, as it runs this test. */
    private void theTestCommand() {
        String command = blocksOf("sh").get(1).text().strip();
        Check.equal("the command of all tests", command, ".ci/run");
        Check.isTrue("it can be run", Files.isExecutable(Path.of(command)));
    }

    private Ending run(String... command) throws IOException, InterruptedException {
        Process process = new ProcessBuilder(command).directory(room.toFile())
                .redirectError(ProcessBuilder.Redirect.INHERIT).start();
        String output = new String(process.getInputStream().readAllBytes(), StandardCharsets.UTF_8);
        return new Ending(process.waitFor(), output);
    }
}
