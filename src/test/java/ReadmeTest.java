import java.io.File;
import java.io.IOException;
import java.lang.reflect.Method;
import java.lang.reflect.Modifier;
import java.net.URL;
import java.net.URLClassLoader;
import java.nio.file.Files;
import java.nio.file.Path;
import java.util.ArrayList;
import java.util.List;
import java.util.Set;
import java.util.TreeSet;
import java.util.regex.Matcher;
import java.util.regex.Pattern;
import javax.tools.JavaCompiler;
import javax.tools.ToolProvider;

/** README.md: its calls answer as it tells, it shows every call, and it names every test. */
public final class ReadmeTest {
    private static final Path PAGE = Path.of("README.md");
    private static final Path PROGRAM = Path.of("src/main/java/SelfCheckingCircuit.java");
    private static final Path TESTS = Path.of("src/test/java");
    private static final Pattern BLOCK = Pattern.compile("```(\\w+)\\R(.*?)```", Pattern.DOTALL);
    /** A call on a line of its own, and the answer that the page tells behind it. */
    private static final Pattern CALL =
            Pattern.compile("(?m)^x\\.(\\w+)\\((.*)\\);(?:\\s*// (-?\\d+): .*)?$");
    private static final Pattern ROW = Pattern.compile("(?m)^\\| `(\\w+)` \\|");
    private static final Check CHECK = new Check();

    public static void main(String[] args) throws Exception {
        String page = Files.readString(PAGE);
        everyCallIsShown(page);
        everyTestIsNamed(page);
        Path room = Files.createTempDirectory("readme");
        try {
            callsAnswerAsTold(blocks(page, "java"), room);
            commandsEndWell(blocks(page, "sh"), room);
        } finally {
            remove(room.toFile());
        }
        CHECK.end();
    }

    private static List<String> blocks(String page, String language) {
        List<String> found = new ArrayList<>();
        Matcher matcher = BLOCK.matcher(page);
        while (matcher.find()) {
            if (matcher.group(1).equals(language)) {
                found.add(matcher.group(2));
            }
        }
        CHECK.due("README has blocks of " + language, found.isEmpty() ? 0 : 1, 1);
        return found;
    }

    private static void everyCallIsShown(String page) {
        for (Method method : SelfCheckingCircuit.class.getDeclaredMethods()) {
            if (Modifier.isPublic(method.getModifiers())) {
                boolean shown = page.contains("x." + method.getName() + "(");
                CHECK.due("README shows " + method.getName(), shown ? 1 : 0, 1);
            }
        }
    }

    private static void everyTestIsNamed(String page) {
        Set<String> named = new TreeSet<>();
        Matcher row = ROW.matcher(page);
        while (row.find()) {
            named.add(row.group(1));
        }
        Set<String> there = new TreeSet<>();
        File[] files = TESTS.toFile().listFiles((place, name) -> name.endsWith("Test.java"));
        for (File file : files == null ? new File[0] : files) {
            there.add(file.getName().replace(".java", ""));
        }
        CHECK.due("README names " + named + ", there are " + there, named.equals(there) ? 1 : 0, 1);
    }

    /** Compiles the blocks as the page says, the program's file together with the user's. */
    private static void callsAnswerAsTold(List<String> blocks, Path room) throws Exception {
        StringBuilder source = new StringBuilder("public final class Page {\n");
        for (int k = 0; k < blocks.size(); k++) {
            source.append("public static java.util.List<Integer> block").append(k)
                    .append("() {\njava.util.List<Integer> got = new java.util.ArrayList<>();\n")
                    .append(CALL.matcher(blocks.get(k)).replaceAll("got.add(x.$1($2));"))
                    .append("return got;\n}\n");
        }
        Path file = Files.writeString(room.resolve("Page.java"), source.append("}\n"));
        JavaCompiler compiler = ToolProvider.getSystemJavaCompiler();
        int code = compiler.run(null, null, null, "-d", room.toString(), PROGRAM.toString(), file.toString());
        CHECK.due("javac of README's calls ends with", code, 0);
        if (code != 0) {
            return;
        }
        URL[] places = {room.toUri().toURL()};
        try (URLClassLoader loader = new URLClassLoader(places, ClassLoader.getPlatformClassLoader())) {
            Class<?> made = loader.loadClass("Page");
            for (int k = 0; k < blocks.size(); k++) {
                compare(blocks.get(k), (List<?>) made.getMethod("block" + k).invoke(null));
            }
        }
    }

    private static void compare(String block, List<?> got) {
        Matcher call = CALL.matcher(block);
        int index = 0;
        while (call.find()) {
            String shown = "README: " + call.group(1) + "(" + call.group(2) + ")";
            CHECK.due(shown + " has its answer told", call.group(3) == null ? 0 : 1, 1);
            if (call.group(3) != null) {
                CHECK.due(shown, (Integer) got.get(index), Integer.parseInt(call.group(3)));
            }
            index++;
        }
        CHECK.due("README: calls in a block", index == 0 ? 0 : 1, 1);
    }

    private static void commandsEndWell(List<String> blocks, Path room)
            throws IOException, InterruptedException {
        for (String block : blocks) {
            ProcessBuilder shell = new ProcessBuilder("sh", "-e", "-c", block).redirectErrorStream(true);
            // What the commands make goes with the room.
            shell.environment().put("TMPDIR", room.toString());
            Process process = shell.start();
            String printed = new String(process.getInputStream().readAllBytes());
            int code = process.waitFor();
            CHECK.due("README: " + block + printed + "ends with", code, 0);
        }
    }

    private static void remove(File file) {
        File[] inside = file.listFiles();
        for (File each : inside == null ? new File[0] : inside) {
            remove(each);
        }
        file.delete();
    }
}
