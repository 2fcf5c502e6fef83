import java.io.IOException;
import java.nio.file.Files;
import java.nio.file.Path;
import java.util.Arrays;
import java.util.HashMap;
import java.util.HashSet;
import java.util.List;
import java.util.Map;
import java.util.Set;
import java.util.TreeSet;
import java.util.regex.Matcher;
import java.util.regex.Pattern;

/** What of LANGUAGE.md can be seen in the source's words alone; the source's path is the one argument. */
public final class LanguageTest {
    private static final Check CHECK = new Check("LanguageTest");
    private static final Set<String> FORBIDDEN = Set.of("import", "package", "throw", "throws", "try", "catch", "finally",
            "synchronized", "assert", "instanceof", "protected", "volatile", "transient", "native", "var", "double",
            "float", "this.super");
    private static final Set<String> LIBRARY = Set.of("String", "Integer", "Math");
    private static final Set<String> LIBRARY_CALLS = Set.of("Math.min", "Math.max", "Integer.bitCount");
    private static final Pattern WORD = Pattern.compile("[A-Za-z_][A-Za-z_0-9]*");
    private static final Pattern METHOD = Pattern.compile(
            "^ +(?:(?:public|private|static|final) )*(?:int|long|boolean|void|[A-Z]\\w*) (\\w+)\\(([^)]*)\\) \\{$");

    public static void main(String[] args) throws IOException {
        List<String> lines = Files.readAllLines(Path.of(args[0]));
        String code = bare(String.join("\n", lines));
        words(code);
        libraryCalls(code);
        noNewInCalls(code);
        shortMethods(code.split("\n"));
        depthOfCalls(code.split("\n"));
        CHECK.end();
    }

    /** The code without its comments and texts. */
    private static String bare(String source) {
        return source.replaceAll("(?s)/\\*.*?\\*/", "").replaceAll("//[^\n]*", "").replaceAll("\"[^\"\n]*\"", "0")
                .replaceAll("'[^'\n]'", "0");
    }

    private static void words(String code) {
        Set<String> classes = new HashSet<>(LIBRARY);
        Matcher declared = Pattern.compile("\\bclass (\\w+)").matcher(code);
        while (declared.find()) {
            classes.add(declared.group(1));
        }
        CHECK.holds("some twelve classes at most", classes.size() - LIBRARY.size() <= 12);
        Matcher word = WORD.matcher(code);
        while (word.find()) {
            String w = word.group();
            CHECK.holds("the word " + w + " may stand", !FORBIDDEN.contains(w));
            boolean ofClass = Character.isUpperCase(w.charAt(0)) && !w.equals(w.toUpperCase());
            CHECK.holds("the class " + w + " is known", !ofClass || classes.contains(w));
        }
        CHECK.holds("no lambda", !code.contains("->"));
        CHECK.holds("no method reference", !code.contains("::"));
    }

    private static void libraryCalls(String code) {
        Matcher call = Pattern.compile("\\b(?:Math|Integer|String)\\.\\w+").matcher(code);
        while (call.find()) {
            CHECK.holds(call.group() + " is of the library", LIBRARY_CALLS.contains(call.group()));
        }
    }

    /** Each new stands in a constructor or behind a field, so that no call makes an object. */
    private static void noNewInCalls(String code) {
        Matcher body = Pattern.compile("(?m)^( +)(?:[a-z]+ )*(?:int|long|boolean|void|Week) \\w+\\([^)]*\\)\\s*\\{$"
                + "[\\s\\S]*?^\\1\\}$").matcher(code);
        int bodies = 0;
        while (body.find()) {
            bodies++;
            CHECK.holds("no new in " + body.group().trim().split("\n")[0], !body.group().contains("new "));
        }
        CHECK.holds("methods were found", bodies > 60);
    }

    private static void shortMethods(String[] lines) {
        for (int start = 0; start < lines.length; start++) {
            Matcher method = METHOD.matcher(lines[start]);
            if (method.matches()) {
                int end = endOf(lines, start);
                CHECK.holds(method.group(1) + " is of sixty lines at most", end - start < 60);
                CHECK.holds(method.group(1) + " takes seven at most", method.group(2).split(",").length <= 7);
            }
        }
    }

    private static int endOf(String[] lines, int start) {
        String close = lines[start].replaceAll("\\S.*", "") + "}";
        int end = start;
        while (!lines[end].equals(close)) {
            end++;
        }
        return end;
    }

    /** By names alone, so that it sees rather too many calls than too few. */
    private static void depthOfCalls(String[] lines) {
        Map<String, Set<String>> calls = new HashMap<>();
        for (int start = 0; start < lines.length; start++) {
            Matcher method = METHOD.matcher(lines[start]);
            if (method.matches()) {
                String body = String.join("\n", Arrays.copyOfRange(lines, start + 1, endOf(lines, start)));
                Matcher called = Pattern.compile("(\\w+)\\(").matcher(body);
                while (called.find()) {
                    calls.computeIfAbsent(method.group(1), name -> new TreeSet<>()).add(called.group(1));
                }
            }
        }
        for (String name : calls.keySet()) {
            int depth = depthOf(name, calls, 1);
            CHECK.holds(name + " opens " + depth + " calls, eight at most", depth <= 8);
        }
    }

    private static int depthOf(String name, Map<String, Set<String>> calls, int depth) {
        int deepest = depth;
        for (String called : calls.getOrDefault(name, Set.of())) {
            if (depth > 20) {
                return depth;
            }
            boolean ofCode = calls.containsKey(called) && !called.equals(name);
            deepest = Math.max(deepest, ofCode ? depthOf(called, calls, depth + 1) : depth + 1);
        }
        return deepest;
    }
}
