import java.io.IOException;
import java.lang.reflect.Method;
import java.nio.file.Files;
import java.nio.file.Path;
import java.util.regex.Matcher;
import java.util.regex.Pattern;

/** Each call of README's example answers what stands beside it. */
public final class ReadmeTest {
    private static final Check check = new Check("ReadmeTest");
    private static final Pattern PAPER = Pattern.compile("\"(W[^\"]*)\"\\.toCharArray");
    private static final Pattern CALL = Pattern.compile("(?m)^x\\.(\\w+)\\((.*)\\); +// (-?\\d+)");

    public static void main(String[] args) throws IOException, ReflectiveOperationException {
        String readme = Files.readString(Path.of("README.md"));
        Matcher paper = PAPER.matcher(readme);
        check.due("README tells a paper", paper.find() ? 1 : 0, 1);
        PaperTrellis x = new PaperTrellis();
        Check.write(x, paper.group(1));
        int calls = 0;
        for (Matcher call = CALL.matcher(readme); call.find(); calls++) {
            check.due(call.group(), answer(x, call.group(1), call.group(2)), Long.parseLong(call.group(3)));
        }
        check.due("README tells twelve calls", calls, 12);
        check.end();
    }

    private static long answer(PaperTrellis x, String name, String told) throws ReflectiveOperationException {
        String[] words = told.isEmpty() ? new String[0] : told.split(", ");
        for (Method m : PaperTrellis.class.getDeclaredMethods()) {
            if (m.getName().equals(name) && m.getParameterCount() == words.length) {
                return ((Number) m.invoke(x, arguments(m.getParameterTypes(), words))).longValue();
            }
        }
        throw new IllegalStateException("there is no " + name + " of " + told);
    }

    private static Object[] arguments(Class<?>[] types, String[] words) {
        Object[] all = new Object[words.length];
        for (int i = 0; i < words.length; i++) {
            if (types[i] == boolean.class) {
                all[i] = Boolean.valueOf(words[i]);
            } else if (types[i] == long.class) {
                all[i] = Long.valueOf(words[i].replace("L", ""));
            } else {
                all[i] = Integer.valueOf(words[i]);
            }
        }
        return all;
    }
}
