import java.io.IOException;
import java.lang.reflect.Method;
import java.lang.reflect.Modifier;
import java.nio.charset.StandardCharsets;
import java.nio.file.Files;
import java.nio.file.Path;
import java.util.ArrayList;
import java.util.Comparator;
import java.util.List;
import java.util.Set;
import java.util.TreeSet;
import java.util.regex.Matcher;
import java.util.regex.Pattern;
import java.util.stream.Collectors;
import java.util.stream.Stream;

/** README.md followed as it is written, in a copy of the sources; run it from the root. */
final class ReadmeTest {
    private static final Check check = new Check();
    private static final Path TESTS = Path.of("src/test/java");

    private final String page;
    private final Path folder;

    private ReadmeTest(String page, Path folder) {
        this.page = page;
        this.folder = folder;
    }

    public static void main(String[] args) throws IOException, InterruptedException {
        Path folder = Files.createTempDirectory("readme");
        try {
            copySources(folder);
            ReadmeTest test = new ReadmeTest(Files.readString(Path.of("README.md"), StandardCharsets.UTF_8), folder);
            test.commands();
            test.allCalls();
            test.allClassesInside();
            test.allTests();
        } finally {
            delete(folder);
        }
        check.end();
    }

    /** All blocks of commands in their order; .ci/run is only looked at, as it is what runs this test. */
    private void commands() throws IOException, InterruptedException {
        List<String> shell = blocks("sh");
        List<String> java = blocks("java");
        check.due("blocks of commands", shell.size(), 4);
        check.due("programs", java.size(), 1);
        if (shell.size() != 4 || java.size() != 1) {
            return;
        }
        run(shell.get(0));
        check.holds("the page tells the program's file", page.contains("`out/Try.java`"));
        Files.writeString(folder.resolve("out/Try.java"), java.get(0), StandardCharsets.UTF_8);
        check.same("what the program prints", run(shell.get(1)), toldAnswers(java.get(0)));
        check.same("how all tests are run", shell.get(2), ".ci/run\n");
        check.holds(".ci/run can be run", Files.isExecutable(Path.of(".ci/run")));
        check.holds("one test alone tells its answers", run(shell.get(3)).endsWith(" answers, 0 not as due\n"));
    }

    private static String toldAnswers(String program) {
        StringBuilder told = new StringBuilder();
        Matcher line = Pattern.compile("println\\(.*\\); +// (-?[0-9]+): ").matcher(program);
        while (line.find()) {
            told.append(line.group(1)).append('\n');
        }
        return told.toString();
    }

    private void allCalls() {
        for (Method m : CutDistances.class.getDeclaredMethods()) {
            if (Modifier.isPublic(m.getModifiers())) {
                check.holds("the page names " + m.getName(), page.contains("`" + m.getName() + "`"));
            }
        }
    }

    private void allClassesInside() {
        for (Class<?> inside : CutDistances.class.getDeclaredClasses()) {
            String name = inside.getSimpleName();
            check.holds("the page names " + name, page.contains("`" + name + "`"));
        }
    }

    /** .ci/run takes what is called so: a file with a main method and another name would never be run. */
    private void allTests() throws IOException {
        Set<String> there = new TreeSet<>();
        for (Path file : sourcesIn(TESTS)) {
            String name = file.getFileName().toString().replace(".java", "");
            boolean isTest = Files.readString(file).contains("public static void main(String[] args)");
            check.holds(name + " is called a Test if it is one", isTest == name.endsWith("Test"));
            check.holds("the page names " + name, page.contains("`" + name + "`"));
            there.add(name);
        }
        Matcher named = Pattern.compile("`([A-Z]\\w*Test)`").matcher(page);
        while (named.find()) {
            check.holds(named.group(1) + " is there", there.contains(named.group(1)));
        }
    }

    private List<String> blocks(String kind) {
        List<String> found = new ArrayList<>();
        Matcher block = Pattern.compile("(?ms)^```" + kind + "\n(.*?)^```$").matcher(page);
        while (block.find()) {
            found.add(block.group(1));
        }
        return found;
    }

    /** What the commands print; what they say of errors goes where this test's goes. */
    private String run(String commands) throws IOException, InterruptedException {
        Process process = new ProcessBuilder("sh", "-e", "-c", commands).directory(folder.toFile())
            .redirectError(ProcessBuilder.Redirect.INHERIT).start();
        process.getOutputStream().close();
        String printed = new String(process.getInputStream().readAllBytes(), StandardCharsets.UTF_8);
        check.due(commands, process.waitFor(), 0);
        return printed.replace("\r\n", "\n");
    }

    private static void copySources(Path into) throws IOException {
        for (Path from : List.of(Path.of("src/main/java"), TESTS)) {
            Files.createDirectories(into.resolve(from));
            for (Path file : sourcesIn(from)) {
                Files.copy(file, into.resolve(file));
            }
        }
    }

    private static List<Path> sourcesIn(Path of) throws IOException {
        try (Stream<Path> files = Files.list(of)) {
            return files.filter(file -> file.toString().endsWith(".java")).sorted().collect(Collectors.toList());
        }
    }

    private static void delete(Path whole) throws IOException {
        try (Stream<Path> files = Files.walk(whole)) {
            for (Path file : files.sorted(Comparator.reverseOrder()).collect(Collectors.toList())) {
                Files.delete(file);
            }
        }
    }
}
