import java.io.IOException;
import java.lang.reflect.Constructor;
import java.lang.reflect.Field;
import java.lang.reflect.Member;
import java.lang.reflect.Method;
import java.lang.reflect.Modifier;
import java.nio.file.Files;
import java.nio.file.Path;
import java.util.Arrays;
import java.util.HashSet;
import java.util.Set;
import java.util.TreeSet;
import java.util.regex.Matcher;
import java.util.regex.Pattern;

/** The public face of the document, and those rules of LANGUAGE.md that can be read off the class or its text. */
public final class FaceTest {
    private static final Check CHECK = new Check("FaceTest");

    private static final String[] METHODS = {
        "int heat(int)", "int take(int,int)", "int back(int)", "int letGo()", "int mark(int,int,int)",
        "int of(int,int)", "int line(int)", "int told(int,int)", "int need(int,int)", "int past(int)",
        "int keep()", "int forget()", "int chance(int,int,int)", "int ways()", "int luck(int)",
        "int days(int)", "int span(int,int,int)", "int was(int,int)", "long worth(int,int,int)",
        "int call(int,int,int)", "int run(int,int)", "int behind(int)", "int many(int)",
    };

    private static final String[] CONSTANTS = {"NUMBER=-1", "FULL=-2", "STATE=-3", "NONE=-4", "LARGE=-5"};

    private static final String[] BANNED_WORDS = {
        "throw", "throws", "try", "catch", "synchronized", "assert", "import", "package", "volatile", "transient",
        "native", "strictfp", "hashCode", "toString", "var", "yield",
    };

    public static void main(String[] args) throws Exception {
        methods();
        constants();
        constructorAndClass();
        classesInside();
        text();
        if (Document.isReadable()) {
            faceOfTheDocument();
            groupsOfTheDocument();
        }
        CHECK.end();
    }

    private static String sorted(Iterable<String> names) {
        Set<String> all = new TreeSet<>();
        for (String name : names) {
            all.add(name);
        }
        return all.toString();
    }

    private static boolean isHidden(Member m) {
        return Modifier.isPrivate(m.getModifiers()) || m.isSynthetic();
    }

    private static void methods() {
        Set<String> open = new HashSet<>();
        Set<String> openNames = new HashSet<>();
        for (Method m : HeatBench.class.getDeclaredMethods()) {
            if (!isHidden(m)) {
                openNames.add(m.getName());
                open.add(faceOf(m));
                CHECK.due(m.getName() + " is public and no more", m.getModifiers(), Modifier.PUBLIC);
            }
        }
        CHECK.same("the methods", sorted(open), sorted(Arrays.asList(METHODS)));
        privateNames(HeatBench.class, openNames);
        for (Class<?> inside : HeatBench.class.getDeclaredClasses()) {
            privateNames(inside, openNames);
        }
    }

    private static void privateNames(Class<?> of, Set<String> openNames) {
        for (Method m : of.getDeclaredMethods()) {
            if (of != HeatBench.class || isHidden(m)) {
                CHECK.due(m.getName() + " is a name of its own", openNames.contains(m.getName()) ? 1 : 0, 0);
                CHECK.due(m.getName() + " has few parameters", m.getParameterCount() <= 7 ? 1 : 0, 1);
            }
        }
    }

    private static String faceOf(Method m) {
        StringBuilder s = new StringBuilder(m.getReturnType().getName()).append(' ').append(m.getName()).append('(');
        for (int i = 0; i < m.getParameterCount(); i++) {
            s.append(i == 0 ? "" : ",").append(m.getParameterTypes()[i].getName());
        }
        return s.append(')').toString();
    }

    private static void constants() throws IllegalAccessException {
        Set<String> open = new HashSet<>();
        for (Field f : HeatBench.class.getDeclaredFields()) {
            if (!isHidden(f)) {
                int all = Modifier.PUBLIC | Modifier.STATIC | Modifier.FINAL;
                CHECK.due(f.getName() + " is a public constant", f.getModifiers(), all);
                open.add(f.getName() + "=" + f.getInt(null));
            }
            if (Modifier.isStatic(f.getModifiers())) {
                CHECK.due(f.getName() + " is final", Modifier.isFinal(f.getModifiers()) ? 1 : 0, 1);
            }
        }
        CHECK.same("the constants", sorted(open), sorted(Arrays.asList(CONSTANTS)));
    }

    private static void constructorAndClass() {
        Constructor<?>[] all = HeatBench.class.getDeclaredConstructors();
        CHECK.due("constructors", all.length, 1);
        CHECK.due("without parameters", all[0].getParameterCount(), 0);
        CHECK.due("it is public", all[0].getModifiers(), Modifier.PUBLIC);
        CHECK.due("public and final", HeatBench.class.getModifiers(), Modifier.PUBLIC | Modifier.FINAL);
        CHECK.same("no class above", HeatBench.class.getSuperclass().getName(), "java.lang.Object");
    }

    private static void classesInside() {
        Class<?>[] inside = HeatBench.class.getDeclaredClasses();
        CHECK.due("few classes", inside.length < 12 ? 1 : 0, 1);
        for (Class<?> c : inside) {
            int open = c.getModifiers() & (Modifier.PUBLIC | Modifier.PROTECTED);
            CHECK.due(c.getName() + " is not open", open, 0);
            CHECK.due(c.getName() + " is static", Modifier.isStatic(c.getModifiers()) ? 1 : 0, 1);
            CHECK.due(c.getName() + " has few fields", c.getDeclaredFields().length <= 20 ? 1 : 0, 1);
        }
    }

    private static String program() throws IOException {
        return Files.readString(Path.of("src/main/java/HeatBench.java"));
    }

    /** Each line of the document's face stands in the program, in the document's order. */
    private static void faceOfTheDocument() throws IOException {
        String program = program();
        int at = 0;
        int lines = 0;
        Pattern open = Pattern.compile("(?m)^ *(public .*?)[;{]? *$");
        Matcher line = open.matcher(Document.sections().get("The public face"));
        while (line.find()) {
            lines++;
            String ending = line.group(1).contains(" = ") ? ";" : " {";
            int found = program.indexOf(line.group(1).trim() + ending, at);
            CHECK.due(line.group(1) + " stands in its place", found >= at ? 1 : 0, 1);
            at = Math.max(at, found);
        }
        CHECK.due("lines of the face", lines, 1 + CONSTANTS.length + 1 + METHODS.length);
    }

    /** Ahead of the first call of each group the program says what the document says there. */
    private static void groupsOfTheDocument() throws IOException {
        String program = program();
        int groups = 0;
        Pattern ahead = Pattern.compile("Ahead of the calls `(\\w+)`[^.]* the interface says: (---- [a-z ]+)\\.");
        Matcher group = ahead.matcher(Document.sections().get("Terms"));
        while (group.find()) {
            groups++;
            Pattern there = Pattern.compile("// " + group.group(2) + "\\s+public \\w+ " + group.group(1) + "\\(");
            CHECK.due(group.group(2), there.matcher(program).find() ? 1 : 0, 1);
        }
        CHECK.due("groups of calls", groups, 3);
    }

    private static void text() throws IOException {
        String whole = program();
        String code = whole.replaceAll("(?s)/\\*.*?\\*/", " ").replaceAll("//[^\n]*", " ");
        Set<String> words = new HashSet<>(Arrays.asList(code.split("[^A-Za-z0-9_]+")));
        for (String word : BANNED_WORDS) {
            CHECK.due("the word " + word, words.contains(word) ? 1 : 0, 0);
        }
        CHECK.due("a lambda or arrow", code.contains("->") ? 1 : 0, 0);
        CHECK.due("a method reference", code.contains("::") ? 1 : 0, 0);
        CHECK.due("an Exact function", code.contains("Exact") ? 1 : 0, 0);
    }
}
