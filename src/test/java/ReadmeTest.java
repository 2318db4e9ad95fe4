import java.io.IOException;
import java.nio.charset.StandardCharsets;
import java.nio.file.Files;
import java.nio.file.Path;
import java.util.Comparator;
import java.util.List;
import java.util.Set;
import java.util.TreeSet;
import java.util.regex.Matcher;
import java.util.regex.Pattern;
import java.util.stream.Collectors;

/** README.md: its example answers as it says, and the ways to run tests that it names are those of .ci/run. */
public final class ReadmeTest {
    private static final Pattern CALL = Pattern.compile("^(int (\\w+) = )?(hall\\.\\w+\\(.*\\)); +// (-?\\d+)\\b.*$");
    private static final Path CLASS = Path.of("src/main/java/BurntHall.java");

    public static void main(String[] args) throws IOException, InterruptedException {
        String readme = Files.readString(Path.of("README.md"));
        // Beside the classes, where whoever runs the test may write.
        Path room = Files.createTempDirectory(Path.of(System.getProperty("java.class.path")).toAbsolutePath(), "readme");
        try {
            example(block(readme, "java", 0), room);
            allTests(readme);
            oneTest(block(readme, "sh", 1).strip(), room);
            failsIfOneFails(room);
        } finally {
            remove(room);
        }
        Due.end();
    }

    /** What stands in the n-th block of a language. */
    private static String block(String text, String language, int n) {
        Matcher m = Pattern.compile("(?s)```" + language + "\n(.*?)```").matcher(text);
        for (int i = 0; i <= n; i++) Due.is("block " + i + " of " + language, m.find() ? 1 : 0, 1);
        return m.group(1);
    }

    /** Each call of the example tells its answer, and the class answers so. */
    private static void example(String code, Path room) throws IOException, InterruptedException {
        StringBuilder program = new StringBuilder("public final class Example {\n    private static int wrong = 0;\n"
                + "    private static int due(int got, int want) {\n        if (got != want) {\n            wrong++;\n"
                + "            System.out.println(\"answered \" + got + \", told is \" + want);\n        }\n"
                + "        return got;\n    }\n"
                + "    public static void main(String[] args) {\n");
        int calls = 0;
        for (String line : code.split("\n")) {
            Matcher m = CALL.matcher(line);
            if (m.find()) {
                String head = m.group(1) == null ? "" : m.group(1);
                program.append(head).append("due(").append(m.group(3)).append(", ").append(m.group(4)).append(");\n");
                calls++;
            } else {
                Due.is("makes the hall: " + line, line.equals("BurntHall hall = new BurntHall();") ? 1 : 0, 1);
                program.append(line).append('\n');
            }
        }
        program.append("System.exit(wrong);\n    }\n}\n");
        Due.is("calls in the example: " + calls, calls > 10 ? 1 : 0, 1);
        Path asTold = Files.createDirectories(room.resolve("told")).resolve("Example.java");
        Files.writeString(asTold, "public final class Example { public static void main(String[] args) {\n" + code + "}}\n");
        Path held = Files.createDirectories(room.resolve("held")).resolve("Example.java");
        Files.writeString(held, program);
        sh("the example compiles and runs", compileAndRun(asTold, room.resolve("a")), 0);
        sh("the example's answers that are not as told", compileAndRun(held, room.resolve("b")), 0);
    }

    private static String compileAndRun(Path example, Path out) {
        return "javac -nowarn -d " + out + " " + CLASS + " " + example + " && java -cp " + out + " Example";
    }

    private static void allTests(String readme) throws IOException {
        Due.is("all tests by", block(readme, "sh", 0).strip().equals(".ci/run") ? 1 : 0, 1);
        Due.is("it can be run", Files.isExecutable(Path.of(".ci/run")) ? 1 : 0, 1);
        String run = Files.readString(Path.of(".ci/run"));
        for (String tests : List.of("src/test/java/*Test.java", "../shared/tests")) {
            Due.is("README.md names " + tests, readme.contains("`" + tests + "`") ? 1 : 0, 1);
            Due.is(".ci/run runs " + tests, run.contains(" " + tests) ? 1 : 0, 1);
        }
        Set<String> there = new TreeSet<>();
        try (var files = Files.list(Path.of("src/test/java"))) {
            files.map(f -> f.getFileName().toString()).filter(f -> f.endsWith("Test.java"))
                    .forEach(f -> there.add(f.replace(".java", "")));
        }
        Set<String> named = Pattern.compile("`(\\w+Test)`").matcher(readme).results().map(m -> m.group(1))
                .collect(Collectors.toCollection(TreeSet::new));
        Due.is("tests that README.md names: " + named, named.equals(there) ? 1 : 0, 1);
    }

    /** README.md's way to run one test is what .ci/run does for each, with the names put in; and it works. */
    private static void oneTest(String told, Path room) throws IOException, InterruptedException {
        String run = Files.readString(Path.of(".ci/run")).replaceAll("\\\\\n\\s*", "");
        Matcher m = Pattern.compile("if (javac .*) && (java .*); then").matcher(run);
        Due.is(".ci/run compiles and runs", m.find() ? 1 : 0, 1);
        String name = told.substring(told.lastIndexOf(' ') + 1);
        String ofCi = (m.group(1) + " && " + m.group(2)).replace("\"$classes\"", "out/" + name)
                .replace("\"$test\"", "src/test/java/" + name + ".java").replace("\"$name\"", name);
        Due.is("told " + told + " / of .ci/run " + ofCi, told.equals(ofCi) ? 1 : 0, 1);
        sh("it works", told.replace("out/" + name, room.resolve("one").toString()), 0);
    }

    /** .ci/run in a project of its own, with one test each that passes or fails. */
    private static void failsIfOneFails(Path room) throws IOException, InterruptedException {
        Path project = room.resolve("work/main");
        for (String dir : List.of(".ci", "src/main/java", "src/test/java", "../shared/tests")) {
            Files.createDirectories(project.resolve(dir));
        }
        Path run = project.resolve(".ci/run");
        Files.copy(Path.of(".ci/run"), run);
        Due.is("executable", run.toFile().setExecutable(true) ? 1 : 0, 1);
        Files.copy(CLASS, project.resolve(CLASS));
        Path own = project.resolve("src/test/java/OwnTest.java");
        Path shared = project.resolve("../shared/tests/Runs.java");
        String good = "System.exit(new BurntHall().count(0));";
        String bad = "System.exit(new BurntHall().person(0) + 1);";
        String wrong = "System.exit(new BurntHall().none());";
        String[][] rows = {{good, good}, {bad, good}, {good, bad}, {wrong, good}, {good, wrong}, {null, good}, {good, null}};
        for (String[] row : rows) {
            write(own, "OwnTest", row[0]);
            write(shared, "Runs", row[1]);
            boolean passes = good.equals(row[0]) && good.equals(row[1]);
            sh("own: " + row[0] + " shared: " + row[1], run.toString(), passes ? 0 : 1);
        }
    }

    private static void write(Path file, String name, String code) throws IOException {
        Files.deleteIfExists(file);
        if (code != null) Files.writeString(file, "public final class " + name + " { public static void main(String[] a) { " + code + " } }");
    }

    private static void sh(String what, String command, int want) throws IOException, InterruptedException {
        Process process = new ProcessBuilder("sh", "-c", command).redirectErrorStream(true).start();
        String out = new String(process.getInputStream().readAllBytes(), StandardCharsets.UTF_8);
        int code = process.waitFor();
        if (code != want) System.out.println(command + "\n" + out);
        Due.is(what, code, want);
    }

    private static void remove(Path room) throws IOException {
        try (var files = Files.walk(room)) {
            for (Path file : files.sorted(Comparator.reverseOrder()).toList()) Files.delete(file);
        }
    }
}
