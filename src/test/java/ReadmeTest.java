import java.io.IOException;
import java.lang.reflect.Field;
import java.lang.reflect.Method;
import java.lang.reflect.Modifier;
import java.nio.file.Files;
import java.nio.file.Path;
import java.util.ArrayList;
import java.util.List;
import java.util.Map;
import java.util.Set;
import java.util.TreeMap;
import java.util.TreeSet;
import java.util.regex.Matcher;
import java.util.regex.Pattern;
import java.util.stream.Stream;

/** README.md tells what there is: its example's answers, the calls with the document's words, constants, tests. */
public final class ReadmeTest {
    private static final Check CHECK = new Check("ReadmeTest");

    private static final Pattern JAVA_BLOCK = Pattern.compile("(?ms)^```java\\n(.*?)^```$");
    private static final String NEW_OBJECT = "HeatBench x = new HeatBench();";
    private static final Pattern CALL = Pattern.compile("x\\.(\\w+)\\(([-0-9, ]*)\\);\\s+// (-?\\d+|[A-Z]+)(: .+)?");
    private static final Pattern CALL_ROW = Pattern.compile("(?m)^\\| (\\d+) \\| `([^`]+)` \\| (.+) \\| (.+) \\|$");
    private static final Pattern CONSTANT_ROW = Pattern.compile("(?m)^\\| `([A-Z]+)` \\| (-\\d) \\| (.+) \\|$");
    private static final Pattern TEST_ROW = Pattern.compile("(?m)^\\| `(\\w+Test)` \\| .+ \\|$");

    public static void main(String[] args) throws Exception {
        String readme = Files.readString(Path.of("README.md"));
        examples(readme);
        callTables(readme);
        constantTable(readme);
        testTable(readme);
        CHECK.end();
    }

    // ---- examples

    private static void examples(String readme) throws Exception {
        Set<String> shown = new TreeSet<>();
        Matcher block = JAVA_BLOCK.matcher(readme);
        while (block.find()) {
            example(block.group(1), shown);
        }
        CHECK.same("the calls that the example shows", shown.toString(), new TreeSet<>(methods().keySet()).toString());
    }

    private static void example(String block, Set<String> shown) throws Exception {
        HeatBench x = null;
        int calls = 0;
        for (String line : (Iterable<String>) block.lines()::iterator) {
            Matcher call = CALL.matcher(line);
            if (line.equals(NEW_OBJECT)) {
                x = new HeatBench();
                calls = 0;
            } else if (x != null && call.matches() && methods().containsKey(call.group(1))) {
                shown.add(call.group(1));
                calls++;
                CHECK.due(line, ask(x, call.group(1), call.group(2)), number(call.group(3)));
            } else {
                CHECK.same("a line that is no call with its answer", line.startsWith("// ") ? "" : line, "");
            }
        }
        CHECK.due("the example asks its object 512 times at most", calls <= Bench.MOST_CALLS ? 1 : 0, 1);
    }

    private static long ask(HeatBench x, String name, String arguments) throws Exception {
        List<Object> numbers = new ArrayList<>();
        for (String argument : arguments.split(", ")) {
            if (!argument.isEmpty()) {
                numbers.add(Integer.valueOf(argument));
            }
        }
        Method method = methods().get(name);
        return ((Number) method.invoke(x, numbers.toArray())).longValue();
    }

    /** A number, or the value of the constant of that name. */
    private static long number(String told) throws Exception {
        return Character.isLetter(told.charAt(0)) ? HeatBench.class.getField(told).getInt(null) : Long.parseLong(told);
    }

    private static Map<String, Method> methods() {
        Map<String, Method> found = new TreeMap<>();
        for (Method method : HeatBench.class.getDeclaredMethods()) {
            if (Modifier.isPublic(method.getModifiers())) {
                found.put(method.getName(), method);
            }
        }
        return found;
    }

    // ---- tables

    /** Each promise has a row, with all of the words that the document has below its heading. */
    private static void callTables(String readme) throws IOException {
        Map<String, String> sections = Document.isReadable() ? Document.sections() : Map.of();
        Matcher row = CALL_ROW.matcher(readme);
        int promise = 0;
        while (row.find()) {
            promise++;
            CHECK.due("the next promise", Integer.parseInt(row.group(1)), promise);
            String name = row.group(2).replaceAll("^.* (?=\\w+\\()|\\(.*$", "");
            CHECK.due(name + " is a call", name.equals("HeatBench") || methods().containsKey(name) ? 1 : 0, 1);
            String refuses = row.group(4).equals("never") ? "" : " " + row.group(4);
            String told = "`" + row.group(2) + "`: " + row.group(3) + refuses;
            String due = sections.getOrDefault("Promise " + promise, told).trim();
            CHECK.same("the row of promise " + promise, told, due);
        }
        CHECK.due("rows of promises", promise, 24);
    }

    private static void constantTable(String readme) throws Exception {
        String terms = Document.isReadable() ? Document.sections().get("Terms") : null;
        Set<String> told = new TreeSet<>();
        Matcher row = CONSTANT_ROW.matcher(readme);
        while (row.find()) {
            told.add(row.group(1));
            CHECK.due(row.group(1), number(row.group(1)), number(row.group(2)));
            String words = "`" + row.group(1) + " = " + row.group(2) + "`: " + row.group(3);
            CHECK.due(words, terms == null || terms.contains(words) ? 1 : 0, 1);
        }
        Set<String> due = new TreeSet<>();
        for (Field field : HeatBench.class.getFields()) {
            due.add(field.getName());
        }
        CHECK.same("the constants", told.toString(), due.toString());
    }

    private static void testTable(String readme) throws IOException {
        Set<String> told = new TreeSet<>();
        Matcher row = TEST_ROW.matcher(readme);
        while (row.find()) {
            told.add(row.group(1) + ".java");
        }
        Set<String> due = new TreeSet<>();
        try (Stream<Path> files = Files.list(Path.of("src/test/java"))) {
            files.map(file -> file.getFileName().toString())
                    .filter(name -> name.endsWith("Test.java"))
                    .forEach(due::add);
        }
        CHECK.same("the tests", told.toString(), due.toString());
    }
}
