import java.io.IOException;
import java.lang.reflect.Method;
import java.util.LinkedHashMap;
import java.util.Map;

/** Every word of the document's terms and promises is quoted by a test that would fail if it were broken. */
public final class DocumentTest {
    private static final Check CHECK = new Check("DocumentTest");

    private static final Class<?>[] TESTS = {
        HeatTermsEdgesTest.class, HeatsEdgesTest.class, PastAndLuckEdgesTest.class, DaysEdgesTest.class,
        ObjectEdgesTest.class,
    };

    /** What no call can break: what the class is about, and how the document and its list of calls are laid out. */
    private static final String[] UNTESTED = {
        "(?s)A surf contest: heats ridden wave by wave.*?would have brought\\.",
        "what later calls answer is free\\.",
        "Ahead of the calls [^.]* the interface says: ---- [a-z ]+\\.",
        "The constants: ",
        "```(text)?",
        "(?m)^\\d\\. ",
        "(?m)^`(int|long|HeatBench)[^`]*`: ",
    };

    /** The words under one heading, and which of their letters are quoted. */
    private static final class Section {
        final String words;
        final boolean[] quoted;

        Section(String text) {
            String rest = text;
            for (String untested : UNTESTED) {
                rest = rest.replaceAll(untested, " ");
            }
            words = rest.replaceAll("\\s+", " ");
            quoted = new boolean[words.length()];
        }

        boolean quote(String some) {
            int at = words.indexOf(some);
            for (int i = at; at >= 0 && i < at + some.length(); i++) {
                quoted[i] = true;
            }
            return at >= 0;
        }

        String unquoted() {
            StringBuilder left = new StringBuilder();
            for (int i = 0; i < quoted.length; i++) {
                left.append(quoted[i] ? ' ' : words.charAt(i));
            }
            return left.toString().replaceAll("\\s+", " ").trim();
        }
    }

    public static void main(String[] args) throws IOException {
        if (!Document.isReadable()) {
            System.out.println("DocumentTest: there is no document to be read here, so nothing was looked at");
            return;
        }
        Map<String, Section> sections = promisingSections();
        CHECK.due("sections", sections.size(), 26);
        for (Class<?> tests : TESTS) {
            for (Method test : Edges.of(tests)) {
                Edge edge = test.getAnnotation(Edge.class);
                for (String words : edge.says()) {
                    Section section = sections.get(edge.in());
                    boolean found = section != null && section.quote(words);
                    CHECK.due(test.getName() + " quotes '" + words + "'", found ? 1 : 0, 1);
                }
            }
        }
        for (Map.Entry<String, Section> section : sections.entrySet()) {
            CHECK.same("what no test quotes of " + section.getKey(), section.getValue().unquoted(), "");
        }
        CHECK.end();
    }

    /** The sections that promise something, by their headings up to the colon. */
    private static Map<String, Section> promisingSections() throws IOException {
        Map<String, Section> found = new LinkedHashMap<>();
        for (Map.Entry<String, String> section : Document.sections().entrySet()) {
            String name = section.getKey();
            if (name.equals("What it is") || name.equals("Terms") || name.matches("Promise \\d+")) {
                found.put(name, new Section(section.getValue()));
            }
        }
        return found;
    }
}
