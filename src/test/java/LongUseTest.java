import java.lang.management.ManagementFactory;
import java.lang.reflect.Array;
import java.lang.reflect.Field;
import java.lang.reflect.Modifier;
import java.util.ArrayList;
import java.util.IdentityHashMap;
import java.util.List;
import java.util.Map;
import java.util.function.ToLongFunction;

/** "An object is used for at most 512 calls after it has been made": the last ones are answered as the first. */
public final class LongUseTest {
    private static final int CALLS = 512;
    private static final String TEXT = "W543lltlblrllltlllblllrlPa0Pd1Pi2Pt3Pl0";
    private static final Check check = new Check("LongUseTest");

    private record Asked(String name, ToLongFunction<PaperTrellis> question) { }

    public static void main(String[] args) throws IllegalAccessException {
        questionsStayAnswered();
        whatIsFullStaysFull();
        actsGoOnAndOn();
        papersGoOnAndOn();
        nightsGoOnAndOn();
        roomOfOneObject();
        noCallTakesRoom();
        check.end();
    }

    /** An object whose boys are out, and how many calls that took: the text, paper, and nine steps. */
    private static PaperTrellis out() {
        PaperTrellis x = new PaperTrellis();
        for (int i = 0; i < TEXT.length(); i++) {
            x.write(TEXT.charAt(i));
        }
        check.due("paper()", x.paper(), 545);
        String[] ways = {"13", "33", "2", "00", "21"};
        for (int boy = 0; boy < 5; boy++) {
            Check.go(x, boy, ways[boy]);
        }
        return x;
    }

    private static final int CALLS_TO_BE_OUT = TEXT.length() + 1 + 9;

    private static List<Asked> questions() {
        List<Asked> all = new ArrayList<>();
        all.add(new Asked("fault", PaperTrellis::fault));
        all.add(new Asked("about", x -> x.about(7)));
        all.add(new Asked("cell", x -> x.cell(19)));
        all.add(new Asked("beside", x -> x.beside(19, 1, false)));
        all.add(new Asked("boy", x -> x.boy(4, 5)));
        all.add(new Asked("far", x -> x.far(3)));
        all.add(new Asked("reach", x -> x.reach(1, 9)));
        all.add(new Asked("again", x -> x.again(1, 0)));
        all.add(new Asked("alike", x -> x.alike(3)));
        all.add(new Asked("calls", x -> x.calls(0)));
        all.add(new Asked("match", x -> x.match(1)));
        all.add(new Asked("judge", x -> x.judge(4, 200302101400L)));
        all.add(new Asked("share", x -> x.share(4, true)));
        all.add(new Asked("stands", PaperTrellis::stands));
        all.add(new Asked("rests", x -> x.rests(0, 4, 0)));
        all.add(new Asked("strays", x -> x.strays(2, 5, false)));
        return all;
    }

    private static void questionsStayAnswered() {
        for (Asked asked : questions()) {
            PaperTrellis x = out();
            long first = asked.question.applyAsLong(x);
            for (int made = CALLS_TO_BE_OUT + 1; made < CALLS; made++) {
                check.due(asked.name + " as call " + (made + 1), asked.question.applyAsLong(x), first);
            }
        }
        PaperTrellis y = out();
        List<Asked> all = questions();
        long[] first = new long[all.size()];
        for (int made = CALLS_TO_BE_OUT; made < CALLS; made++) {
            int i = (made - CALLS_TO_BE_OUT) % all.size();
            long answer = all.get(i).question.applyAsLong(y);
            if (made < CALLS_TO_BE_OUT + all.size()) {
                first[i] = answer;
            }
            check.due(all.get(i).name + " among the others, as call " + (made + 1), answer, first[i]);
        }
    }

    private static void whatIsFullStaysFull() {
        PaperTrellis x = new PaperTrellis();
        for (int made = 1; made <= CALLS; made++) {
            check.due("write", x.write('W'), made <= 48 ? made : PaperTrellis.FULL);
        }
        PaperTrellis y = new PaperTrellis();
        for (int made = 1; made <= CALLS; made++) {
            check.due("see", y.see(0, 0, 0), made <= 6 ? made : PaperTrellis.FULL);
        }
    }

    private static void actsGoOnAndOn() {
        PaperTrellis x = Check.of("W220llllPa0");
        int made = 13;
        for (int i = 0; made < CALLS - 20; i++, made++) {
            check.due("a step back and forth", x.step(0, 1 - i % 2), 1 - i % 2);
        }
        check.due("ACTS", x.about(8), 14);
        for (int left = 13; left >= 0; left--) {
            check.due("undo to " + left, x.undo(), left);
        }
        check.due("no more", x.undo(), PaperTrellis.LATE);
        PaperTrellis y = Check.of("W220lltlPa0");
        made = 13;
        for (; made < CALLS - 2; made += 2) {
            check.due("cut", y.cut(2), 0);
            check.due("undone", y.undo(), 0);
        }
    }

    private static void papersGoOnAndOn() {
        PaperTrellis x = Check.of("W220lltlPa0");
        for (int made = 13; made < CALLS - 5; made += 5) {
            check.due("out", x.step(0, 1), 1);
            check.due("kept", x.keep(1), 1);
            check.due("gone on", x.goOn(1), 1);
            check.due("a paper", x.paper(), 221);
            check.due("gone", x.goOn(1), PaperTrellis.LATE);
        }
    }

    private static void nightsGoOnAndOn() {
        PaperTrellis x = new PaperTrellis();
        long seed = 0;
        for (int made = 0; made < CALLS - 2; made += 2) {
            check.due("nights", x.nights(30), 0);
            for (int i = 0; i < 30; i++) {
                seed = seed * 6364136223846793005L + 1442695040888963407L;
            }
            check.due("THE SEED", x.seed(seed), seed);
        }
    }

    /** All calls of a run live in one room, and a run makes many objects: one takes little of it. */
    private static void roomOfOneObject() throws IllegalAccessException {
        Map<Object, Boolean> objects = new IdentityHashMap<>();
        long elements = elementsOf(new PaperTrellis(), objects);
        check.due("objects and arrays of one, " + objects.size(), objects.size() <= 100 ? 1 : 0, 1);
        check.due("fields and elements of one, " + elements, elements <= 4000 ? 1 : 0, 1);
    }

    private static long elementsOf(Object x, Map<Object, Boolean> met) throws IllegalAccessException {
        if (x == null || met.put(x, true) != null) {
            return 0;
        }
        long count = 0;
        if (x.getClass().isArray()) {
            count = Array.getLength(x);
            for (int i = 0; i < Array.getLength(x) && !x.getClass().getComponentType().isPrimitive(); i++) {
                count += elementsOf(Array.get(x, i), met);
            }
            return count;
        }
        for (Field f : x.getClass().getDeclaredFields()) {
            if (!Modifier.isStatic(f.getModifiers())) {
                f.setAccessible(true);
                count += 1 + (f.getType().isPrimitive() ? 0 : elementsOf(f.get(x), met));
            }
        }
        return count;
    }

    private static long bytesTaken() {
        if (ManagementFactory.getThreadMXBean() instanceof com.sun.management.ThreadMXBean bean
                && bean.isThreadAllocatedMemorySupported()) {
            return bean.getThreadAllocatedBytes(Thread.currentThread().getId());
        }
        return 0;
    }

    private static void noCallTakesRoom() {
        List<Asked> all = questions();
        all.add(new Asked("step", y -> y.step(0, 1)));
        all.add(new Asked("call", y -> y.call(3)));
        all.add(new Asked("cut", y -> y.cut(2)));
        all.add(new Asked("undo", PaperTrellis::undo));
        all.add(new Asked("see", y -> y.see(1, 1, 1)));
        all.add(new Asked("unsee", PaperTrellis::unsee));
        all.add(new Asked("seed", y -> y.seed(3)));
        all.add(new Asked("nights", y -> y.nights(30)));
        all.add(new Asked("keep", y -> y.keep(1)));
        all.add(new Asked("goOn", y -> y.goOn(1)));
        all.add(new Asked("paper", PaperTrellis::paper));
        all.add(new Asked("write", y -> y.write('P')));
        all.add(new Asked("wipe", PaperTrellis::wipe));
        for (Asked asked : all) {
            PaperTrellis x = out();
            asked.question.applyAsLong(x);
            bytesTaken();
            long before = bytesTaken();
            for (int i = 0; i < 100; i++) {
                asked.question.applyAsLong(x);
            }
            // The least object takes 16 bytes; the measuring itself takes some hundreds, once.
            long taken = bytesTaken() - before;
            check.due(asked.name + " takes room, bytes " + taken, taken < 1600 ? 1 : 0, 1);
        }
    }
}
