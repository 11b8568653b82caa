import java.io.IOException;
import java.io.PrintWriter;
import java.io.StringWriter;
import java.nio.file.Files;
import java.nio.file.Path;
import java.util.HashMap;
import java.util.HashSet;
import java.util.Map;
import java.util.Set;
import java.util.regex.Matcher;
import java.util.regex.Pattern;
import java.util.spi.ToolProvider;

/** The form of the program, as far as it can be seen from its text and its calls: rules of LANGUAGE.md. */
public final class FormTest {
    private static final String SOURCE = "src/main/java/HexCabinet.java";
    private static final int DEEPEST = 8;

    public static void main(String[] args) throws IOException {
        String text = Files.readString(Path.of(SOURCE));
        ascii(text);
        words(text);
        methods(text);
        depthOfCalls();
        Check.end();
    }

    /** Rule 3 and 4: texts of signs 1 to 127. */
    private static void ascii(String text) {
        for (int i = 0; i < text.length(); i++) {
            Check.dueTrue("sign " + (int) text.charAt(i) + " at " + i, text.charAt(i) > 0 && text.charAt(i) < 128);
        }
    }

    /** Rules 1, 2, 4, 6, 13: what does not stand in the text. */
    private static void words(String text) {
        String code = text.replaceAll("(?s)/\\*.*?\\*/", "").replaceAll("//[^\n]*", "")
                .replaceAll("\\b(case [^;{}\"]*|default) ->", "");
        String[] none = {"\\bpackage\\b", "->", "::", "\\bfinally\\b", "\\bsynchronized\\b", "\\bassert\\b",
            "\\bprotected\\b", "\\bSystem\\.(?!arraycopy)", "\\bThread\\b", "\\bRandom\\b",
            "\\bMath\\.\\w*(random|Exact)", "\\.stream\\b", "\\bimport (?!java\\.util\\.\\w+;)", "\\bObject\\b",
            "\\bcatch \\((Exception|Throwable|ArrayIndexOutOfBounds|NullPointer|ClassCast|NegativeArraySize|ArrayStore)"};
        for (String word : none) {
            Matcher m = Pattern.compile(word).matcher(code);
            Check.dueFalse("found " + word, m.find());
        }
    }

    /** Rule 11: a method has at most some sixty lines and seven parameters, the file some twelve classes. */
    private static void methods(String text) {
        String[] lines = text.split("\n");
        int start = -1;
        String head = "";
        for (int i = 0; i < lines.length; i++) {
            Matcher m = Pattern.compile("^(    |        )((public|private|static|final) )*\\w+(\\[\\])? \\w+\\((.*)").matcher(lines[i]);
            if (m.find() && !lines[i].contains(" new ") && !lines[i].trim().endsWith(";")) {
                start = i;
                head = m.group(1);
                Check.dueTrue("parameters at line " + (i + 1), m.group(5).split(",").length <= 7);
            }
            if (start >= 0 && lines[i].equals(head + "}")) {
                Check.dueTrue("lines of the method at " + (start + 1), i - start < 60);
                start = -1;
            }
        }
        Check.dueTrue("classes", text.split("\\b(class|enum|interface|record) \\w+ (implements \\w+ )?\\{", -1).length - 1 <= 12);
    }

    /** Rule 11: calls that are no recursion go at most eight deep. */
    private static void depthOfCalls() {
        ToolProvider javap = ToolProvider.findFirst("javap").orElse(null);
        if (javap == null) {
            System.out.println("no javap here: the depth of the calls is not tested");
            return;
        }
        Map<String, Set<String>> calls = new HashMap<>();
        String place = HexCabinet.class.getProtectionDomain().getCodeSource().getLocation().getPath();
        gather(calls, javap, place, "HexCabinet");
        for (Class<?> inside : HexCabinet.class.getDeclaredClasses()) {
            gather(calls, javap, place, inside.getName());
        }
        Check.dueTrue("methods that were found", calls.size() > 19);
        for (String method : calls.keySet()) {
            int depth = depth(calls, method, new HashSet<>());
            Check.dueTrue(method + " calls " + depth + " deep", depth <= DEEPEST);
        }
    }

    private static void gather(Map<String, Set<String>> calls, ToolProvider javap, String place, String name) {
        StringWriter out = new StringWriter();
        javap.run(new PrintWriter(out), new PrintWriter(new StringWriter()), "-c", "-p", "-cp", place, name);
        String method = null;
        for (String line : out.toString().split("\n")) {
            Matcher head = Pattern.compile("^  \\S.* ([\\w$]+)\\(.*;").matcher(line);
            if (head.find()) {
                method = name + "." + head.group(1);
                calls.putIfAbsent(method, new HashSet<>());
            }
            Matcher call = Pattern.compile("// (?:Interface)?Method (?:([\\w$/]+)\\.)?(\\w+):").matcher(line);
            if (method != null && call.find()) {
                String of = call.group(1) == null ? name : call.group(1);
                if (of.startsWith("HexCabinet")) {
                    calls.get(method).add(of + "." + call.group(2));
                }
            }
        }
    }

    private static int depth(Map<String, Set<String>> calls, String method, Set<String> open) {
        int deepest = 0;
        open.add(method);
        for (String called : calls.getOrDefault(method, Set.of())) {
            if (!open.contains(called)) {
                deepest = Math.max(deepest, depth(calls, called, open));
            }
        }
        open.remove(method);
        return deepest + 1;
    }
}
