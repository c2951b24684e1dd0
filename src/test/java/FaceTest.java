import java.io.IOException;
import java.lang.reflect.Constructor;
import java.lang.reflect.Field;
import java.lang.reflect.Method;
import java.lang.reflect.Modifier;
import java.nio.file.Files;
import java.nio.file.Path;
import java.util.Arrays;
import java.util.Set;
import java.util.TreeSet;
import java.util.regex.Matcher;
import java.util.regex.Pattern;

/** The public face is the document's and no more; the source keeps to what can be told of LANGUAGE.md by words. */
public final class FaceTest {
    private static final Check check = new Check("FaceTest");
    private static final Path SOURCE = Path.of("src/main/java/PaperTrellis.java");

    private static final String[] FACE = {
        "int write(int)", "int wipe()", "int fault()", "int paper()", "int about(int)", "int cell(int)",
        "int beside(int, int, boolean)", "int boy(int, int)", "int step(int, int)", "int call(int)", "int cut(int)",
        "int undo()", "int far(int)", "int reach(int, int)", "int again(int, int)", "int alike(int)",
        "int calls(int)", "int match(int)", "int judge(int, long)", "int share(int, boolean)",
        "int see(int, int, int)", "int unsee()", "int stands()", "int rests(int, int, int)",
        "int strays(int, int, boolean)", "long seed(long)", "int nights(int)", "int keep(int)", "int goOn(int)"};

    public static void main(String[] args) throws IOException {
        methods();
        constants();
        constructors();
        inside();
        words();
        library();
        fewFields();
        check.end();
    }

    private static void same(String what, Set<String> got, Set<String> want) {
        if (!got.equals(want)) {
            System.out.println(what + ": " + got + ", due is " + want);
        }
        check.due(what, got.equals(want) ? 1 : 0, 1);
    }

    private static void methods() {
        Set<String> open = new TreeSet<>();
        Set<String> names = new TreeSet<>();
        for (Method m : PaperTrellis.class.getDeclaredMethods()) {
            if (!Modifier.isPrivate(m.getModifiers())) {
                String told = Arrays.toString(m.getParameterTypes()).replace('[', '(').replace(']', ')');
                open.add(m.getReturnType() + " " + m.getName() + told);
                names.add(m.getName());
                check.due(m + " is public, not static", m.getModifiers(), Modifier.PUBLIC);
            }
        }
        same("the methods", open, new TreeSet<>(Arrays.asList(FACE)));
        for (Class<?> c : PaperTrellis.class.getDeclaredClasses()) {
            for (Method m : c.getDeclaredMethods()) {
                check.due(c + " has a name of the face, " + m.getName(), names.contains(m.getName()) ? 1 : 0, 0);
            }
        }
        for (Method m : PaperTrellis.class.getDeclaredMethods()) {
            boolean both = Modifier.isPrivate(m.getModifiers()) && names.contains(m.getName());
            check.due("a private one bears a public name, " + m.getName(), both ? 1 : 0, 0);
            check.due(m.getName() + " has seven parameters at most", m.getParameterCount() <= 7 ? 1 : 0, 1);
        }
    }

    private static void constants() {
        Set<String> open = new TreeSet<>();
        for (Field f : PaperTrellis.class.getDeclaredFields()) {
            if (!Modifier.isPrivate(f.getModifiers())) {
                open.add(f.getName());
                int due = Modifier.PUBLIC | Modifier.STATIC | Modifier.FINAL;
                check.due(f.getName() + " is public static final", f.getModifiers(), due);
            }
        }
        same("the constants", open, new TreeSet<>(Arrays.asList("UNKNOWN", "BAD", "LATE", "FULL", "NONE")));
    }

    private static void constructors() {
        Constructor<?>[] all = PaperTrellis.class.getDeclaredConstructors();
        check.due("one constructor", all.length, 1);
        check.due("it is public", all[0].getModifiers(), Modifier.PUBLIC);
        check.due("without arguments", all[0].getParameterCount(), 0);
        check.due("the class", PaperTrellis.class.getModifiers(), Modifier.PUBLIC | Modifier.FINAL);
    }

    private static void inside() {
        Class<?>[] inside = PaperTrellis.class.getDeclaredClasses();
        check.due("twelve classes at most", inside.length < 12 ? 1 : 0, 1);
        for (Class<?> c : inside) {
            check.due(c + " is static", Modifier.isStatic(c.getModifiers()) ? 1 : 0, 1);
            check.due(c + " is not public", Modifier.isPublic(c.getModifiers()) ? 1 : 0, 0);
            for (Field f : c.getDeclaredFields()) {
                int kind = f.getModifiers();
                check.due(f + ": statics are final", Modifier.isStatic(kind) && !Modifier.isFinal(kind) ? 1 : 0, 0);
            }
        }
    }

    private static String sourceWithoutComments() throws IOException {
        return Files.readString(SOURCE).replaceAll("(?s)/\\*.*?\\*/", "").replaceAll("//[^\n]*", "");
    }

    private static void words() throws IOException {
        String source = sourceWithoutComments();
        String[] ruledOut = {"\\b(throw|throws|try|catch|synchronized|assert|import|package)\\b", "static \\{",
            "->", "::", "\\b\\w+Exact\\b", "\\bObject\\b", "[^\\x00-\\x7f]"};
        for (String word : ruledOut) {
            Matcher found = Pattern.compile(word).matcher(source);
            check.due("the source holds " + word, found.find() ? 1 : 0, 0);
        }
    }

    /** Rule 4 lists functions alone: no constant of Integer, and no class that does not stand there. */
    private static void library() throws IOException {
        String source = sourceWithoutComments();
        Set<String> allowed = new TreeSet<>(Arrays.asList("Integer.bitCount", "Integer.compare", "Long.compare",
            "Math.max", "Math.min", "Math.abs", "Math.floorDiv", "Math.floorMod", "System.arraycopy",
            "Arrays.copyOf", "Arrays.copyOfRange", "Arrays.fill"));
        Matcher found = Pattern.compile("\\b(Integer|Long|Math|System|Arrays|Character|Double|Float)\\.\\w+\\b")
            .matcher(source);
        while (found.find()) {
            check.due(found.group() + " stands in rule 4", allowed.contains(found.group()) ? 1 : 0, 1);
        }
        check.due("no name of a package", Pattern.compile("\\bjava[.x]").matcher(source).find() ? 1 : 0, 0);
    }

    /** Rule 11: some twenty fields beside the constants. */
    private static void fewFields() {
        fewFields(PaperTrellis.class);
        for (Class<?> c : PaperTrellis.class.getDeclaredClasses()) {
            fewFields(c);
        }
    }

    private static void fewFields(Class<?> c) {
        int many = 0;
        for (Field f : c.getDeclaredFields()) {
            many += Modifier.isStatic(f.getModifiers()) ? 0 : 1;
        }
        check.due(c + " has twenty fields at most", many <= 20 ? 1 : 0, 1);
    }
}
