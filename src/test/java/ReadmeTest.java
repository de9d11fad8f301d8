import java.io.IOException;
import java.lang.reflect.Method;
import java.lang.reflect.Modifier;
import java.nio.file.Files;
import java.nio.file.Path;
import java.util.ArrayList;
import java.util.Comparator;
import java.util.List;
import java.util.regex.Matcher;
import java.util.regex.Pattern;
import java.util.stream.Stream;

/**
 * What README.md shows: its pieces of Java compile together with the program and answer as it says,
 * and its whole program prints what it says, by the commands that it gives.
 */
final class ReadmeTest {
    private static final String PROGRAM = "src/main/java/TelemetryLink.java";
    /** A call, and behind it what it answers: a number, or an exception's name behind "throws". */
    private static final Pattern ANSWERED =
            Pattern.compile("(link\\.(\\w+)\\(.*\\));\\s+// (-?\\d+|throws \\w+)(:.*)?");

    /** The program that asks the calls of the pieces. */
    private static final String ASKER = """
            public final class ReadmeCalls {
                interface Call {
                    long answer();
                }

                static int wrong = 0;

                static void due(int line, String due, Call call) {
                    String got;
                    try {
                        got = Long.toString(call.answer());
                    } catch (RuntimeException e) {
                        got = "throws " + e.getClass().getSimpleName();
                    }
                    if (!got.equals(due)) {
                        wrong++;
                        System.out.println("README.md:" + line + " says " + due + ", got " + got);
                    }
                }

                // the pieces

                public static void main(String[] args) {
                    // all of them
                    System.exit(wrong == 0 ? 0 : 1);
                }
            }
            """;

    private record Block(String kind, int firstLine, List<String> lines) {
        String text() {
            return String.join("\n", lines) + "\n";
        }
    }

    private ReadmeTest() {
    }

    public static void main(String[] args) throws IOException, InterruptedException {
        List<Block> blocks = blocks();
        Path room = Files.createTempDirectory("readme");
        try {
            Files.createDirectories(room.resolve(PROGRAM).getParent());
            Files.copy(Path.of(PROGRAM), room.resolve(PROGRAM));
            callsAnswerAsShown(blocks, room);
            wholeProgramPrintsAsShown(blocks, room);
            everyMethodIsShown(blocks);
        } finally {
            delete(room);
        }
        Check.end();
    }

    private static List<Block> blocks() throws IOException {
        List<Block> blocks = new ArrayList<>();
        Block open = null;
        int number = 0;
        for (String line : Files.readAllLines(Path.of("README.md"))) {
            number++;
            if (!line.startsWith("```")) {
                if (open != null) {
                    open.lines.add(line);
                }
            } else if (open == null) {
                open = new Block(line.substring(3), number + 1, new ArrayList<>());
            } else {
                blocks.add(open);
                open = null;
            }
        }
        Check.same("a block of README.md has no end", open == null ? 0 : 1, 0);
        return blocks;
    }

    private static boolean isWholeProgram(Block block) {
        return block.kind.equals("java") && block.text().contains("class ");
    }

    /** The pieces of Java: blocks that stand inside some method. */
    private static List<Block> pieces(List<Block> blocks) {
        List<Block> pieces = new ArrayList<>();
        for (Block block : blocks) {
            if (block.kind.equals("java") && !isWholeProgram(block)) {
                pieces.add(block);
            }
        }
        return pieces;
    }

    private static void callsAnswerAsShown(List<Block> blocks, Path room)
            throws IOException, InterruptedException {
        StringBuilder code = new StringBuilder();
        StringBuilder all = new StringBuilder();
        List<Block> pieces = pieces(blocks);
        for (int i = 0; i < pieces.size(); i++) {
            code.append("static void shown" + i + "() {\n" + pieces.get(i).text() + "}\n");
            code.append("static void asked" + i + "() {\n" + asking(pieces.get(i)) + "}\n");
            all.append("asked" + i + "();\n");
        }
        Files.writeString(room.resolve("ReadmeCalls.java"),
                ASKER.replace("// the pieces", code).replace("// all of them", all));
        succeeds("compiling the calls", room, "javac", "-d", "build", PROGRAM, "ReadmeCalls.java");
        succeeds("running the calls", room, "java", "-cp", "build", "ReadmeCalls");
    }

    /** The lines of a piece, with a question instead of each call that is shown with its answer. */
    private static String asking(Block piece) {
        StringBuilder code = new StringBuilder();
        for (int i = 0; i < piece.lines.size(); i++) {
            String line = piece.lines.get(i);
            int number = piece.firstLine + i;
            Matcher answered = ANSWERED.matcher(line);
            if (answered.matches()) {
                code.append("due(" + number + ", \"" + answered.group(3) + "\", () -> "
                        + answered.group(1) + ");\n");
            } else {
                Check.same("README.md:" + number + " shows a call without an answer",
                        line.contains("link.") ? 1 : 0, 0);
                code.append(line).append('\n');
            }
        }
        return code.toString();
    }

    private static Block only(List<Block> blocks, String kind) {
        List<Block> found = new ArrayList<>();
        for (Block block : blocks) {
            if (isWholeProgram(block) ? kind.equals("program") : block.kind.equals(kind)) {
                found.add(block);
            }
        }
        Check.same("blocks of README.md: " + kind, found.size(), 1);
        return found.isEmpty() ? new Block(kind, 0, List.of()) : found.get(0);
    }

    private static void wholeProgramPrintsAsShown(List<Block> blocks, Path room)
            throws IOException, InterruptedException {
        Files.writeString(room.resolve("Downlink.java"), only(blocks, "program").text());
        String printed = "";
        for (String command : only(blocks, "sh").lines) {
            printed = succeeds(command, room, command.split(" "));
        }
        String due = only(blocks, "text").text();
        Check.same("Downlink printed " + printed + "and README.md says " + due,
                printed.equals(due) ? 0 : 1, 0);
    }

    private static void everyMethodIsShown(List<Block> blocks) {
        List<String> shown = new ArrayList<>();
        for (Block piece : pieces(blocks)) {
            for (String line : piece.lines) {
                Matcher answered = ANSWERED.matcher(line);
                if (answered.matches()) {
                    shown.add(answered.group(2));
                }
            }
        }
        for (Method method : TelemetryLink.class.getDeclaredMethods()) {
            if (Modifier.isPublic(method.getModifiers())) {
                Check.same("README.md doesn't show " + method.getName(),
                        shown.contains(method.getName()) ? 0 : 1, 0);
            }
        }
    }

    /** Runs a command in the room, where it must end well; answers what it printed. */
    private static String succeeds(String what, Path room, String... command)
            throws IOException, InterruptedException {
        Process process = new ProcessBuilder(command).directory(room.toFile())
                .redirectError(ProcessBuilder.Redirect.INHERIT).start();
        String printed = new String(process.getInputStream().readAllBytes());
        int exit = process.waitFor();
        Check.same(what + ": " + printed + "exit code", exit, 0);
        return printed;
    }

    private static void delete(Path room) throws IOException {
        try (Stream<Path> inside = Files.walk(room)) {
            for (Path path : inside.sorted(Comparator.reverseOrder()).toList()) {
                Files.delete(path);
            }
        }
    }
}
