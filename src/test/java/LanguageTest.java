import java.io.IOException;
import java.lang.reflect.Field;
import java.lang.reflect.Member;
import java.lang.reflect.Method;
import java.lang.reflect.Modifier;
import java.nio.file.Files;
import java.nio.file.Path;
import java.util.ArrayList;
import java.util.Arrays;
import java.util.List;
import java.util.Set;
import java.util.TreeSet;
import java.util.regex.Matcher;
import java.util.regex.Pattern;

/** The document's face, and what can be read of LANGUAGE.md off the source. */
public final class LanguageTest {
    private static final Path SOURCE = Path.of("src/main/java/BurntHall.java");
    private static final Path DOCUMENT = Path.of("../shared/DOC.md");

    public static void main(String[] args) throws IOException {
        face(Files.readString(DOCUMENT));
        faceAsWritten(Files.readString(DOCUMENT), Files.readString(SOURCE));
        sections(Files.readString(DOCUMENT), Files.readString(SOURCE));
        source(Files.readString(SOURCE));
        Due.end();
    }

    /** 'The public face' line by line, in its order: constants with their numbers, parameters with their names. */
    private static void faceAsWritten(String document, String source) {
        String block = document.substring(document.indexOf("public final class BurntHall"), document.indexOf("## Terms"));
        List<String> wanted = linesOf(block, "    public ");
        List<String> there = linesOf(source, "    public ").stream().map(line -> line.replace(" {", ";")).toList();
        Due.is("lines of the face", there.size(), wanted.size());
        for (int i = 0; i < Math.min(wanted.size(), there.size()); i++) {
            Due.is("line " + i + " of the face, " + there.get(i), there.get(i).equals(wanted.get(i)) ? 1 : 0, 1);
        }
    }

    private static List<String> linesOf(String text, String start) {
        return text.lines().filter(line -> line.startsWith(start)).toList();
    }

    /** Terms, the last rows: what the interface says ahead of which calls. */
    private static void sections(String document, String source) {
        List<String> wanted = new ArrayList<>();
        Matcher m = Pattern.compile("Ahead of the calls (.*) the interface says: (---- [a-z ]+)\\.").matcher(document);
        while (m.find()) {
            wanted.add(m.group(2));
            for (String call : m.group(1).split(", ")) wanted.add(call.replace("`", ""));
        }
        List<String> there = new ArrayList<>();
        Matcher s = Pattern.compile("(?m)^    (?:// (---- .*)|public (?:int|long) (\\w+)\\(.*)$").matcher(source);
        while (s.find()) there.add(s.group(1) != null ? s.group(1) : s.group(2));
        Due.is("sections of the interface", wanted.stream().filter(w -> w.startsWith("----")).count(), 8);
        List<String> fromThere = there.subList(Math.max(0, there.indexOf("---- persons")), there.size());
        Due.is("what the interface says: " + fromThere, fromThere.equals(wanted) ? 1 : 0, 1);
    }

    private static void face(String document) {
        String block = document.substring(document.indexOf("```java"), document.indexOf("## Terms"));
        Set<String> wanted = new TreeSet<>();
        Matcher m = Pattern.compile("public (int|long) (\\w+)\\((.*)\\);").matcher(block);
        while (m.find()) {
            int parameters = m.group(3).isEmpty() ? 0 : m.group(3).split(",").length;
            wanted.add(m.group(1) + " " + m.group(2) + " " + parameters);
        }
        Set<String> there = new TreeSet<>();
        for (Method method : BurntHall.class.getDeclaredMethods()) {
            if (isOpen(method)) there.add(method.getReturnType() + " " + method.getName() + " " + method.getParameterCount());
        }
        Due.is("methods of the face: " + wanted.size(), wanted.equals(there) ? 1 : 0, 1);
        for (Field field : BurntHall.class.getDeclaredFields()) {
            boolean constant = Set.of("NONE", "RANGE", "FULL", "STATE").contains(field.getName());
            Due.is("open field " + field.getName(), isOpen(field) ? 1 : 0, constant ? 1 : 0);
        }
        Due.is("the class is public and final", BurntHall.class.getModifiers(), Modifier.PUBLIC | Modifier.FINAL);
        Due.is("NONE", BurntHall.NONE, -1);
        Due.is("RANGE", BurntHall.RANGE, -2);
        Due.is("FULL", BurntHall.FULL, -3);
        Due.is("STATE", BurntHall.STATE, -4);
        for (Class<?> inside : BurntHall.class.getDeclaredClasses()) {
            Due.is("static: " + inside, Modifier.isStatic(inside.getModifiers()) ? 1 : 0, 1);
            for (Method method : inside.getDeclaredMethods()) {
                boolean ofFace = wanted.stream().anyMatch(w -> w.split(" ")[1].equals(method.getName()));
                Due.is("name of the face within: " + method, ofFace ? 1 : 0, 0);
            }
            long fields = Arrays.stream(inside.getDeclaredFields()).filter(f -> !Modifier.isStatic(f.getModifiers())).count();
            Due.is("some twenty fields: " + inside + " " + fields, fields <= 20 ? 1 : 0, 1);
        }
        Due.is("some twelve classes", BurntHall.class.getDeclaredClasses().length <= 11 ? 1 : 0, 1);
    }

    private static boolean isOpen(Member member) {
        return !Modifier.isPrivate(member.getModifiers());
    }

    private static void source(String text) {
        String code = text.replaceAll("(?s)/\\*.*?\\*/", "").replaceAll("//.*", "").replaceAll("\"[^\"]*\"", "\"\"");
        for (String word : List.of("throw", "throws", "try", "catch", "synchronized", "assert", "package", "protected",
                "Exception", "double", "float", "Object", "volatile", "native")) {
            Due.is("word " + word, Pattern.compile("\\b" + word + "\\b").matcher(code).find() ? 1 : 0, 0);
        }
        for (String sign : List.of("->", "::", "Exact", "new Thread", "System.out", "System.nano", "System.current", "Random")) {
            Due.is("sign " + sign, code.contains(sign) ? 1 : 0, 0);
        }
        for (int i = 0; i < text.length(); i++) {
            if (text.charAt(i) > 126) Due.is("a sign of the source", text.charAt(i), 126);
        }
        List<String> imports = new ArrayList<>();
        Matcher m = Pattern.compile("import ([\\w.]+);").matcher(code);
        while (m.find()) imports.add(m.group(1));
        Due.is("imports", imports.equals(List.of("java.util.Arrays")) ? 1 : 0, 1);
        lengths(code);
    }

    /** Methods stay short: from a line that opens one to the line that closes it. */
    private static void lengths(String code) {
        int opened = -1;
        String close = "";
        String name = "";
        String[] lines = code.split("\n");
        Pattern head = Pattern.compile("^( {8}| {4})(?! )(?!.*\\bclass\\b)[\\w\\[\\] ]+\\(.*\\) \\{$");
        for (int i = 0; i < lines.length; i++) {
            Matcher m = head.matcher(lines[i]);
            if (opened < 0 && m.find()) {
                opened = i;
                close = m.group(1) + "}";
                name = lines[i].trim();
            } else if (opened >= 0 && lines[i].equals(close)) {
                Due.is("some sixty lines: " + name, i - opened < 60 ? 1 : 0, 1);
                opened = -1;
            }
        }
    }
}
