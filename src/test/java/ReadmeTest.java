import java.io.File;
import java.io.IOException;
import java.lang.reflect.Method;
import java.lang.reflect.Modifier;
import java.nio.file.Files;
import java.nio.file.Path;
import java.util.ArrayList;
import java.util.List;
import java.util.Set;
import java.util.TreeSet;
import java.util.regex.Matcher;
import java.util.regex.Pattern;

/** README.md: its calls answer as it tells, it shows every call, and it names every test. */
public final class ReadmeTest {
    private static final Path PAGE = Path.of("README.md");
    private static final Path PROGRAM = Path.of("src/main/java/SelfCheckingCircuit.java");
    private static final Path TESTS = Path.of("src/test/java");
    private static final Pattern BLOCK = Pattern.compile("```(\\w+)\\R(.*?)```", Pattern.DOTALL);
    /** A call on a line of its own, and the answer that the page tells behind it. */
    private static final Pattern CALL =
            Pattern.compile("(?m)^x\\.(\\w+)\\((.*)\\);(?:\\s*// (-?\\d+): .*)?$");
    private static final Pattern ROW = Pattern.compile("(?m)^\\| `(\\w+)` \\|");
    private static final Check CHECK = new Check();

    public static void main(String[] args) throws IOException, InterruptedException {
        String page = Files.readString(PAGE);
        everyCallIsShown(page);
        everyTestIsNamed(page);
        Path room = Files.createTempDirectory("readme");
        try {
            callsAnswerAsTold(blocks(page, "java"), room);
            commandsEndWell(blocks(page, "sh"), room);
        } finally {
            remove(room.toFile());
        }
        CHECK.end();
    }

    private static List<String> blocks(String page, String language) {
        List<String> found = new ArrayList<>();
        Matcher matcher = BLOCK.matcher(page);
        while (matcher.find()) {
            if (matcher.group(1).equals(language)) {
                found.add(matcher.group(2));
            }
        }
        CHECK.due("README has blocks of " + language, found.isEmpty() ? 0 : 1, 1);
        return found;
    }

    private static void everyCallIsShown(String page) {
        for (Method method : SelfCheckingCircuit.class.getDeclaredMethods()) {
            if (Modifier.isPublic(method.getModifiers())) {
                boolean shown = page.contains("x." + method.getName() + "(");
                CHECK.due("README shows " + method.getName(), shown ? 1 : 0, 1);
            }
        }
    }

    private static void everyTestIsNamed(String page) {
        Set<String> named = new TreeSet<>();
        Matcher row = ROW.matcher(page);
        while (row.find()) {
            named.add(row.group(1));
        }
        Set<String> there = new TreeSet<>();
        File[] files = TESTS.toFile().listFiles((place, name) -> name.endsWith("Test.java"));
        for (File file : files == null ? new File[0] : files) {
            there.add(file.getName().replace(".java", ""));
        }
        CHECK.due("README names " + named + ", there are " + there, named.equals(there) ? 1 : 0, 1);
    }

    /** Each block becomes a part of one program, which prints the answer of each call. */
    private static void callsAnswerAsTold(List<String> blocks, Path room)
            throws IOException, InterruptedException {
        StringBuilder source = new StringBuilder("class Page {\n");
        source.append("public static void main(String[] args) {\n");
        for (String block : blocks) {
            source.append("{\n");
            source.append(CALL.matcher(block).replaceAll("System.out.println(x.$1($2));"));
            source.append("}\n");
        }
        Path file = Files.writeString(room.resolve("Page.java"), source.append("} }\n"));
        String place = room.toString();
        run("README's calls", room, "javac", "-d", place, PROGRAM.toString(), file.toString());
        String printed = run("README's calls", room, "java", "-cp", place, "Page");
        compare(String.join("", blocks), printed.lines().toList());
    }

    private static void compare(String told, List<String> got) {
        Matcher call = CALL.matcher(told);
        int index = 0;
        while (call.find()) {
            String shown = "README: " + call.group(1) + "(" + call.group(2) + ")";
            String answer = index < got.size() ? got.get(index) : "nothing";
            boolean same = answer.equals(call.group(3));
            CHECK.due(shown + " is told as " + call.group(3) + " and is " + answer, same ? 1 : 0, 1);
            index++;
        }
        CHECK.due("README: answers", got.size(), index);
    }

    private static void commandsEndWell(List<String> blocks, Path room)
            throws IOException, InterruptedException {
        for (String block : blocks) {
            run("README's commands", room, "sh", "-e", "-c", block);
        }
    }

    /** Runs a command, which must end with 0; answers what it printed. */
    private static String run(String what, Path room, String... command)
            throws IOException, InterruptedException {
        ProcessBuilder builder = new ProcessBuilder(command);
        // What a Java machine says of itself is no answer of a call.
        builder.redirectError(ProcessBuilder.Redirect.INHERIT);
        // What the commands make goes with the room.
        builder.environment().put("TMPDIR", room.toString());
        Process process = builder.start();
        String printed = new String(process.getInputStream().readAllBytes());
        int code = process.waitFor();
        CHECK.due(what + ": " + String.join(" ", command) + "\n" + printed, code, 0);
        return printed;
    }

    private static void remove(File file) {
        File[] inside = file.listFiles();
        for (File each : inside == null ? new File[0] : inside) {
            remove(each);
        }
        file.delete();
    }
}
