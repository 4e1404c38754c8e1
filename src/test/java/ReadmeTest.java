import java.io.IOException;
import java.lang.reflect.Method;
import java.lang.reflect.Modifier;
import java.nio.charset.StandardCharsets;
import java.nio.file.Files;
import java.nio.file.Path;
import java.util.ArrayList;
import java.util.List;
import java.util.Set;
import java.util.TreeSet;
import java.util.regex.Matcher;
import java.util.regex.Pattern;
import java.util.stream.Collectors;
import java.util.stream.Stream;

/** What README.md says of the class and of its tests: its commands are run in a copy of the checkout. */
public final class ReadmeTest {
    record Block(String language, String text) {}

    private static final Check check = new Check();

    public static void main(String[] args) throws IOException, InterruptedException {
        String page = Files.readString(Path.of("README.md"));
        namesAllCalls(page);
        namesAllTests(page);
        namesAllClasses(page);
        Path top = Files.createTempDirectory("readme");
        try {
            copy(Path.of("README.md"), top.resolve("main/README.md"));
            copy(Path.of("src"), top.resolve("main/src"));
            copy(Path.of("../shared/tests"), top.resolve("shared/tests"));
            tryBlocks(page, top.resolve("main"));
        } finally {
            delete(top);
        }
        check.finish();
    }

    private static void namesAllCalls(String page) {
        Set<String> calls = new TreeSet<>();
        for (Method m : LockstepRoom.class.getDeclaredMethods()) {
            if (Modifier.isPublic(m.getModifiers())) {
                calls.add(m.getName());
            }
        }
        String table = between(page, "| for | calls |\n| --- | --- |\n", "\n\n");
        check.due("the calls of the table", names("`([a-zA-Z]+)`", table).toString(), calls.toString());
    }

    private static void namesAllTests(String page) throws IOException {
        Set<String> tests = new TreeSet<>();
        try (Stream<Path> files = Files.list(Path.of("src/test/java"))) {
            files.map(f -> f.getFileName().toString()).filter(f -> f.endsWith("Test.java")).forEach(f -> tests.add(f.replace(".java", "")));
        }
        String table = between(page, "| test | promises |\n| --- | --- |\n", "\n\n");
        check.due("the tests of the table", names("(?m)^\\| `([a-zA-Z]+)`", table).toString(), tests.toString());
    }

    private static void namesAllClasses(String page) {
        Set<String> classes = new TreeSet<>();
        for (Class<?> c : LockstepRoom.class.getDeclaredClasses()) {
            classes.add(c.getSimpleName());
        }
        String list = between(page, "## How it is built\n", "\n\nAll rows");
        check.due("the classes inside", names("`([A-Z][a-zA-Z]+)`", list).toString(), classes.toString());
    }

    private static String between(String page, String begin, String end) {
        int from = page.indexOf(begin) + begin.length();
        int to = page.indexOf(end, from);
        check.due("the page has " + begin.trim(), page.contains(begin) && to >= from, true);
        return to < from ? "" : page.substring(from, to);
    }

    private static Set<String> names(String pattern, String text) {
        Set<String> names = new TreeSet<>();
        Matcher m = Pattern.compile(pattern).matcher(text);
        while (m.find()) {
            names.add(m.group(1));
        }
        return names;
    }

    private static List<Block> blocks(String page) {
        List<Block> blocks = new ArrayList<>();
        Matcher m = Pattern.compile("(?ms)^```([a-z]+)\n(.*?)^```$").matcher(page);
        while (m.find()) {
            blocks.add(new Block(m.group(1), m.group(2)));
        }
        return blocks;
    }

    private static void tryBlocks(String page, Path checkout) throws IOException, InterruptedException {
        String output = "";
        Set<String> met = new TreeSet<>();
        for (Block block : blocks(page)) {
            met.add(block.language);
            switch (block.language) {
                case "java" -> check.due("the example", block.text, Files.readString(Path.of("src/example/java/Example.java")));
                case "text" -> check.due("what the example prints", output, block.text);
                default -> output = tryCommands(block.text, checkout);
            }
        }
        check.due("the kinds of blocks", met.toString(), "[java, sh, text]");
    }

    /** .ci/run runs this very test, so it is only looked whether it can be called. */
    private static String tryCommands(String commands, Path checkout) throws IOException, InterruptedException {
        if (commands.equals(".ci/run\n")) {
            check.due(".ci/run is executable", Files.isExecutable(Path.of(".ci/run")), true);
            return "";
        }
        // The shared tests are not the project's own: one that is gone must not make the project fail.
        if (!names("(\\.\\./shared/\\S+)", commands).stream().allMatch(f -> Files.exists(Path.of(f)))) {
            System.out.println("not tried, as a shared file is not there: " + commands);
            return "";
        }
        Process shell = new ProcessBuilder("sh", "-e", "-c", commands).directory(checkout.toFile()).redirectErrorStream(true).start();
        shell.getOutputStream().close();
        String output = new String(shell.getInputStream().readAllBytes(), StandardCharsets.UTF_8);
        int code = shell.waitFor();
        check.due("the exit code of\n" + commands + output, code, 0);
        return output;
    }

    private static void copy(Path from, Path to) throws IOException {
        for (Path file : walk(from)) {
            if (Files.isRegularFile(file)) {
                Path target = to.resolve(from.relativize(file).toString());
                Files.createDirectories(target.getParent());
                Files.write(target, Files.readAllBytes(file));
            }
        }
    }

    private static void delete(Path top) throws IOException {
        List<Path> files = walk(top);
        for (int k = files.size() - 1; k >= 0; k--) {
            Files.delete(files.get(k));
        }
    }

    private static List<Path> walk(Path top) throws IOException {
        try (Stream<Path> files = Files.walk(top)) {
            return files.collect(Collectors.toList());
        }
    }
}
