import java.io.IOException;
import java.lang.reflect.Field;
import java.lang.reflect.Method;
import java.lang.reflect.Modifier;
import java.nio.charset.StandardCharsets;
import java.nio.file.Files;
import java.nio.file.Path;
import java.nio.file.StandardCopyOption;
import java.util.ArrayList;
import java.util.Comparator;
import java.util.List;
import java.util.concurrent.Callable;
import java.util.concurrent.ExecutorService;
import java.util.concurrent.Executors;
import java.util.concurrent.Future;
import java.util.regex.Matcher;
import java.util.regex.Pattern;
import java.util.stream.Stream;

/** README.md names every call, its example prints what it tells, and its commands run the tests. */
public final class ReadmeTest {
    private static final String CLASS = "src/main/java/PlateWriters.java";
    private static final String ENDS = "public final class %s { public static void main(String[] args) {"
            + " System.out.println(\"%1$s runs\"); System.exit(%d); } }\n";

    private static int wrong = 0;

    private record Answer(int code, String output) { }

    private static synchronized void sure(String what, boolean holds) {
        if (holds) return;
        wrong++;
        System.out.println("not so: " + what);
    }

    /** What stands under a heading, up to the next one of its kind. */
    private static String section(String readme, String heading) {
        int from = readme.indexOf("\n## " + heading + "\n"), to = from < 0 ? -1 : readme.indexOf("\n## ", from + 1);
        sure("README.md has a section '" + heading + "'", from >= 0);
        return from < 0 ? "" : readme.substring(from, to < 0 ? readme.length() : to);
    }

    private static List<String> blocks(String text, String kind) {
        List<String> blocks = new ArrayList<>();
        Matcher matcher = Pattern.compile("(?s)```" + kind + "\n(.*?)```").matcher(text);
        while (matcher.find()) blocks.add(matcher.group(1));
        sure("README.md has a block of " + kind, !blocks.isEmpty());
        return blocks;
    }

    private static List<String> commands(String text) {
        List<String> commands = new ArrayList<>();
        for (String block : blocks(text, "sh")) commands.addAll(block.lines().toList());
        return commands;
    }

    // ---- what it names

    private static void everyCallIsNamed(String use) {
        for (Method method : PlateWriters.class.getDeclaredMethods()) {
            if (!Modifier.isPublic(method.getModifiers())) continue;
            Matcher row = Pattern.compile("\n\\| `" + method.getName() + "\\((.*?)\\)` \\|").matcher(use);
            boolean found = row.find();
            int named = !found || row.group(1).isEmpty() ? 0 : row.group(1).split(", ").length;
            sure("README.md tells of " + method.getName() + "()", found);
            sure("README.md gives " + method.getName() + "() its arguments", named == method.getParameterCount());
        }
        for (Field field : PlateWriters.class.getDeclaredFields())
            if (Modifier.isPublic(field.getModifiers()))
                sure("README.md tells of " + field.getName(), use.contains("`" + field.getName() + "`"));
    }

    /** The orders of its table, one behind the other, are a text without a fault. */
    private static void ordersAreRight(String use) {
        Matcher row = Pattern.compile("\n\\| `([a-z][0-9a-z@.=]*)` \\| `").matcher(use);
        StringBuilder text = new StringBuilder();
        while (row.find()) text.append(text.length() == 0 ? "" : ";").append(row.group(1));
        PlateWriters desk = new PlateWriters();
        sure("README.md tells of each order: " + text, Checks.put(desk, text.toString()) == text.length());
        sure("README.md's orders have no fault", desk.fault() == PlateWriters.NONE);
        for (char kind : "nokwpxh".toCharArray())
            sure("README.md tells of the order " + kind, (";" + text).indexOf(";" + kind) >= 0);
    }

    // ---- what its commands do: in a copy of the project, so that nothing is left behind in this one

    private static void copy(Path project, String file) throws IOException {
        Path to = project.resolve(file);
        Files.createDirectories(to.getParent());
        Files.copy(Path.of(file), to, StandardCopyOption.COPY_ATTRIBUTES);
    }

    private static void write(Path project, String file, String text) throws IOException {
        Path to = project.resolve(file).normalize();
        Files.createDirectories(to.getParent());
        Files.writeString(to, text);
    }

    private static Answer run(Path project, String command) throws IOException, InterruptedException {
        Process process = new ProcessBuilder("sh", "-c", command).directory(project.toFile())
                .redirectErrorStream(true).start();
        process.getOutputStream().close();
        String output = new String(process.getInputStream().readAllBytes(), StandardCharsets.UTF_8);
        return new Answer(process.waitFor(), output);
    }

    private static String runAll(Path project, List<String> commands) throws IOException, InterruptedException {
        StringBuilder output = new StringBuilder();
        for (String command : commands) {
            Answer answer = run(project, command);
            sure("'" + command + "' runs: " + answer.output, answer.code == 0);
            output.append(answer.output);
        }
        return output.toString();
    }

    private static Void exampleRuns(Path project, String use) throws IOException, InterruptedException {
        copy(project, CLASS);
        write(project, "Example.java", blocks(use, "java").get(0));
        String printed = runAll(project, commands(use)), told = blocks(use, "text").get(0);
        sure("the example prints what README.md tells, but\n" + printed, printed.equals(told));
        return null;
    }

    private static Void testsRun(Path project, String tests) throws IOException, InterruptedException {
        for (String file : List.of(CLASS, ".ci/run", "src/test/java/Boundary.java", "src/test/java/Checks.java",
                "src/test/java/PromisesTest.java")) copy(project, file);
        write(project, "src/test/java/FirstTest.java", String.format(ENDS, "FirstTest", 0));
        write(project, "../shared/tests/SharedRuns.java", String.format(ENDS, "SharedRuns", 0));
        List<String> commands = commands(tests);
        sure("README.md names .ci/run", commands.contains(".ci/run"));
        String all = run(project, ".ci/run").output;
        for (String ran : List.of("FirstTest runs", "SharedRuns runs", "answers as due, 0 not", "3 passed, 0 failed"))
            sure(".ci/run tells '" + ran + "', but\n" + all, all.contains(ran));
        commands.remove(".ci/run");
        String one = runAll(project, commands);
        sure("the other commands run PromisesTest: " + one, one.contains("answers as due, 0 not"));
        sure("and it alone: " + one, !one.contains(" runs"));
        return null;
    }

    /** Where one test is not as it should be, .ci/run fails, though all others pass. */
    private static Void failureIsSeen(Path project, String file, String text) throws IOException, InterruptedException {
        copy(project, ".ci/run");
        write(project, CLASS, "public final class PlateWriters { }\n");
        write(project, "src/test/java/FirstTest.java", String.format(ENDS, "FirstTest", 0));
        write(project, "../shared/tests/SharedRuns.java", String.format(ENDS, "SharedRuns", 0));
        write(project, file, text);
        Answer answer = run(project, ".ci/run");
        sure(".ci/run fails with " + file + ": " + text + answer.output, answer.code != 0);
        sure("and runs the others: " + answer.output, file.equals(CLASS) || answer.output.contains("SharedRuns runs"));
        return null;
    }

    private static void inCopies(Path room, String use, String tests) throws Exception {
        String[][] planted = {{"src/test/java/AnyTest.java", String.format(ENDS, "AnyTest", 1)},
            {"../shared/tests/Any.java", String.format(ENDS, "Any", 1)},
            {"src/test/java/AnyTest.java", "no class at all"}, {"../shared/tests/Any.java", "no class at all"},
            {CLASS, "no class at all"}};
        List<Callable<Void>> all = new ArrayList<>();
        all.add(() -> exampleRuns(room.resolve("example/main"), use));
        all.add(() -> testsRun(room.resolve("tests/main"), tests));
        for (int i = 0; i < planted.length; i++) {
            String[] it = planted[i];
            Path project = room.resolve("planted" + i + "/main");
            all.add(() -> failureIsSeen(project, it[0], it[1]));
        }
        ExecutorService workers = Executors.newFixedThreadPool(4);
        try {
            for (Future<Void> done : workers.invokeAll(all)) done.get();
        } finally {
            workers.shutdown();
        }
    }

    private static void remove(Path room) throws IOException {
        try (Stream<Path> files = Files.walk(room)) {
            for (Path file : files.sorted(Comparator.reverseOrder()).toList()) Files.delete(file);
        }
    }

    public static void main(String[] args) throws Exception {
        sure("README.md is there", Files.isRegularFile(Path.of("README.md")));
        sure(".ci/run can be run", Files.isExecutable(Path.of(".ci/run")));
        String readme = wrong == 0 ? "\n" + Files.readString(Path.of("README.md")) : "";
        String use = section(readme, "How to use it"), tests = section(readme, "How to run the tests");
        if (wrong == 0) {
            everyCallIsNamed(use);
            ordersAreRight(use);
            Path room = Files.createTempDirectory("readme");
            try {
                inCopies(room, use, tests);
            } finally {
                remove(room);
            }
        }
        System.out.println(wrong == 0 ? "README.md is as due" : wrong + " things are not so");
        if (wrong != 0) System.exit(1);
    }
}
