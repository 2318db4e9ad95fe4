import java.io.File;
import java.io.IOException;
import java.io.PrintWriter;
import java.io.StringWriter;
import java.net.URISyntaxException;
import java.nio.file.Files;
import java.nio.file.Path;
import java.util.ArrayList;
import java.util.List;
import java.util.Map;
import java.util.Set;
import java.util.TreeMap;
import java.util.TreeSet;
import java.util.regex.Matcher;
import java.util.regex.Pattern;
import java.util.spi.ToolProvider;

/** LANGUAGE.md, rules 4, 6, 8 and 11, as the compiled class shows them: what is called, and how deep calls go. */
public final class CallsTest {
    private static final Pattern CLASS = Pattern.compile("^[\\w ]*class ([\\w$]+).*\\{$");
    private static final Pattern METHOD = Pattern.compile("^  (?:[\\w$\\[\\]. ]+ )?([\\w$<>]+)\\(.*\\);$");
    private static final Pattern CALL = Pattern.compile("// (?:Interface)?Method ([\\w/$.\"<>\\[]+):");
    private static final Set<String> LIBRARY = Set.of("java/lang/Object.<init>", "java/lang/Math.abs", "java/lang/Math.max",
            "java/lang/Math.min", "java/lang/String.charAt", "java/lang/String.length", "java/lang/System.arraycopy",
            "java/util/Arrays.copyOf", "java/util/Arrays.fill");

    private final Map<String, Set<String>> calls = new TreeMap<>();

    public static void main(String[] args) throws IOException, URISyntaxException {
        if (ToolProvider.findFirst("javap").isEmpty()) {
            System.out.println("this java has no javap: nothing was read");
            return;
        }
        CallsTest test = new CallsTest();
        String code = test.disassembled();
        test.gather(code);
        test.onlyTheLibrary();
        test.depths();
        for (String step : List.of("athrow", "monitorenter", "invokedynamic", "checkcast", "instanceof")) {
            Due.is("a step " + step, Pattern.compile("\\d: " + step + "\\b").matcher(code).find() ? 1 : 0, 0);
        }
        Due.is("a table of what is caught", code.contains("Exception table") ? 1 : 0, 0);
        Due.end();
    }

    private String disassembled() throws IOException, URISyntaxException {
        Path classes = Path.of(BurntHall.class.getProtectionDomain().getCodeSource().getLocation().toURI());
        List<String> arguments = new ArrayList<>(List.of("-c", "-p"));
        try (var files = Files.list(classes)) {
            files.map(Path::toString).filter(f -> new File(f).getName().matches("BurntHall(\\$\\w+)?\\.class")).sorted()
                    .forEach(arguments::add);
        }
        StringWriter out = new StringWriter();
        ToolProvider javap = ToolProvider.findFirst("javap").orElseThrow();
        int code = javap.run(new PrintWriter(out), new PrintWriter(out), arguments.toArray(new String[0]));
        Due.is("javap", code, 0);
        return out.toString();
    }

    private void gather(String code) {
        String type = "";
        Set<String> called = new TreeSet<>();
        for (String line : code.split("\n")) {
            Matcher m = CLASS.matcher(line);
            if (m.find()) {
                type = m.group(1);
            }
            m = METHOD.matcher(line);
            if (m.find()) {
                String name = m.group(1).equals(type) ? "<init>" : m.group(1);
                called = calls.computeIfAbsent(type + "." + name, k -> new TreeSet<>());
            }
            m = CALL.matcher(line);
            if (m.find()) {
                String target = m.group(1).replace("\"", "");
                called.add(target.contains(".") ? target : type + "." + target);
            }
        }
        Due.is("methods were found", calls.size() > 150 ? 1 : 0, 1);
    }

    private void onlyTheLibrary() {
        for (String method : calls.keySet()) {
            for (String target : calls.get(method)) {
                boolean own = calls.containsKey(target);
                Due.is(method + " calls " + target, own || LIBRARY.contains(target) ? 1 : 0, 1);
            }
        }
    }

    /** A library's call counts as a level; nothing is recursion. */
    private void depths() {
        for (String method : calls.keySet()) {
            int depth = depth(method, new ArrayList<>());
            Due.is("calls from " + method + " go " + depth + " deep", depth <= 8 ? 1 : 0, 1);
        }
    }

    private int depth(String method, List<String> open) {
        if (open.contains(method)) {
            Due.is("recursion by " + method, 1, 0);
            return 1000;
        }
        open.add(method);
        int below = 0;
        for (String target : calls.getOrDefault(method, Set.of())) below = Math.max(below, depth(target, open));
        open.remove(method);
        return 1 + below;
    }
}
