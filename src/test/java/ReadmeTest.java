import java.io.IOException;
import java.lang.reflect.Field;
import java.lang.reflect.Method;
import java.lang.reflect.Modifier;
import java.nio.file.Files;
import java.nio.file.Path;
import java.util.Set;
import java.util.TreeSet;
import java.util.regex.Matcher;
import java.util.regex.Pattern;
import java.util.stream.Collectors;
import java.util.stream.Stream;

/** README.md tells no call, answer or test other than there are; it is looked for where the test is started. */
public final class ReadmeTest {
    private static final Check CHECK = new Check("ReadmeTest");
    private static final Pattern TEXT = Pattern.compile("\"([^\"]+)\"\\.toCharArray");
    private static final Pattern ANSWERED = Pattern.compile("(?m)^town\\.(\\w+)\\(([^)]*)\\); +// (\\w+): ");
    private static final Pattern CALL = Pattern.compile("`(\\w+)\\(([^)`]*)\\)`");

    public static void main(String[] args) throws IOException, ReflectiveOperationException {
        String page = Files.readString(Path.of("README.md"));
        exampleAnswersAsItSays(part(page, "```java", "```"));
        everyCallIsNamed(part(page, "| calls | for |", "\n\n"));
        everyTestIsNamed(part(page, "| test | what it tests |", "\n\n"));
        CHECK.end();
    }

    private static String part(String page, String from, String to) {
        int start = page.indexOf(from) + from.length();
        int end = page.indexOf(to, start);
        return page.substring(start, end < 0 ? page.length() : end);
    }

    private static void exampleAnswersAsItSays(String example) throws ReflectiveOperationException {
        Matcher text = TEXT.matcher(example);
        CHECK.holds("the example has a text", text.find());
        CarvedWeeks town = new CarvedWeeks();
        Check.type(town, text.group(1));
        int lines = 0;
        Matcher line = ANSWERED.matcher(example);
        while (line.find()) {
            lines++;
            CHECK.due(line.group(1) + "(" + line.group(2) + ")", answer(town, line.group(1), line.group(2)),
                    told(line.group(3)));
        }
        CHECK.due("lines of the example that are looked at", lines, example.split("\ntown\\.").length - 1);
    }

    private static long answer(CarvedWeeks town, String name, String numbers) throws ReflectiveOperationException {
        String[] told = numbers.isEmpty() ? new String[0] : numbers.split(", ");
        Method method = callOf(name, told.length);
        Object[] given = new Object[told.length];
        for (int i = 0; i < told.length; i++) {
            boolean truly = method.getParameterTypes()[i] == boolean.class;
            given[i] = truly ? (Object) Boolean.valueOf(told[i]) : (Object) Integer.valueOf(told[i]);
        }
        return ((Number) method.invoke(town, given)).longValue();
    }

    private static Method callOf(String name, int arguments) throws NoSuchMethodException {
        for (Method method : CarvedWeeks.class.getDeclaredMethods()) {
            if (method.getName().equals(name) && method.getParameterCount() == arguments) {
                return method;
            }
        }
        throw new NoSuchMethodException(name + " of " + arguments);
    }

    /** A number, or the name of a constant. */
    private static long told(String answer) throws ReflectiveOperationException {
        if (Character.isDigit(answer.charAt(0))) {
            return Long.parseLong(answer);
        }
        Field constant = CarvedWeeks.class.getDeclaredField(answer);
        return constant.getInt(null);
    }

    private static void everyCallIsNamed(String table) {
        Set<String> named = new TreeSet<>();
        Matcher call = CALL.matcher(table);
        while (call.find()) {
            named.add(call.group(1) + " of " + (call.group(2).isEmpty() ? 0 : call.group(2).split(", ").length));
        }
        Set<String> there = new TreeSet<>();
        for (Method method : CarvedWeeks.class.getDeclaredMethods()) {
            if (Modifier.isPublic(method.getModifiers())) {
                there.add(method.getName() + " of " + method.getParameterCount());
            }
        }
        CHECK.alike("the calls", named.toString(), there.toString());
    }

    private static void everyTestIsNamed(String table) throws IOException {
        Set<String> named = new TreeSet<>();
        Matcher row = Pattern.compile("(?m)^\\| (\\w+Test) \\|").matcher(table);
        while (row.find()) {
            named.add(row.group(1));
        }
        try (Stream<Path> files = Files.list(Path.of("src/test/java"))) {
            Set<String> there = files.map(file -> file.getFileName().toString()).filter(name -> name.endsWith("Test.java"))
                    .map(name -> name.substring(0, name.length() - ".java".length()))
                    .collect(Collectors.toCollection(TreeSet::new));
            CHECK.alike("the tests", named.toString(), there.toString());
        }
    }
}
