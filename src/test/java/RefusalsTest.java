import java.util.Arrays;
import java.util.function.Supplier;
import java.util.function.ToLongFunction;

/** Part 4: "Of several what is told first. What is refused changes nothing." And part 2: "nothing is changed". */
public final class RefusalsTest {
    private static final Check check = new Check("RefusalsTest");
    private static final int UNKNOWN = -1, BAD = -2, LATE = -3, FULL = -4;
    private static final int[] NO_BOY = {-1, 3, 5, Integer.MIN_VALUE, Integer.MAX_VALUE};
    private static final int[] NO_CELL = {-1, 6, 20, Integer.MIN_VALUE, Integer.MAX_VALUE};
    private static final int[] NO_WAY = {-1, 4, Integer.MIN_VALUE, Integer.MAX_VALUE};

    private static Supplier<PaperTrellis> make;
    private static String state;

    public static void main(String[] args) {
        in("busy", RefusalsTest::busy);
        theTaleTellsOfEachChange();
        paperRefused();
        boysRefused();
        cellsRefused();
        numbersRefused();
        lateInTheBusyOne();
        questionsChangeNothing();
        in("begun", RefusalsTest::begun);
        lateInTheBegunOne();
        boysRefused();
        cellsRefused();
        numbersRefused();
        questionsChangeNothing();
        in("new", PaperTrellis::new);
        lateInTheNewOne();
        check.end();
    }

    private static void in(String name, Supplier<PaperTrellis> maker) {
        state = name;
        make = maker;
    }

    /** Everything is full: 48 bytes (that are no paper), 14 acts of which one is forgotten, 6 seen, both slots. */
    private static PaperTrellis busy() {
        PaperTrellis x = begun();
        x.keep(0);
        Check.go(x, 2, "111111111");
        x.cut(2);
        x.keep(1);
        Check.go(x, 0, "303");
        x.call(1);
        int[][] seen = {{0, 0, 0}, {1, 0, 0}, {0, 1, 3}, {0, 0, 0}, {-4, 4, 0}, {0, 0, 0}};
        for (int[] one : seen) {
            x.see(one[0], one[1], one[2]);
        }
        x.seed(77);
        Check.write(x, "W3".repeat(24));
        return x;
    }

    /** Nothing is kept; one act; the text is wiped. */
    private static PaperTrellis begun() {
        PaperTrellis x = Check.of("W321lltrblPa0Pb1Pf3");
        Check.go(x, 1, "1");
        x.wipe();
        return x;
    }

    private static void refused(String call, int due, ToLongFunction<PaperTrellis> doing) {
        PaperTrellis tried = make.get();
        check.due(state + ": " + call, doing.applyAsLong(tried), due);
        same(call, tried);
    }

    private static void same(String call, PaperTrellis tried) {
        int at = Arrays.mismatch(Tale.of(make.get()), Tale.of(tried));
        check.due(state + ": " + call + " changes nothing, but what is told by answer", at, -1);
    }

    private static void asked(String call, ToLongFunction<PaperTrellis> question) {
        PaperTrellis x = make.get();
        long first = question.applyAsLong(x);
        check.due(state + ": " + call + " is answered", first >= 0 || first == PaperTrellis.NONE ? 1 : 0, 1);
        check.due(state + ": " + call + " again", question.applyAsLong(x), first);
        same(call, x);
    }

    private static void differs(String call, ToLongFunction<PaperTrellis> doing) {
        PaperTrellis x = make.get();
        doing.applyAsLong(x);
        int at = Arrays.mismatch(Tale.of(make.get()), Tale.of(x));
        check.due("the tale tells of " + call, at >= 0 ? 1 : 0, 1);
    }

    /** The test of the test: what is not refused is told of. */
    private static void theTaleTellsOfEachChange() {
        differs("wipe()", PaperTrellis::wipe);
        differs("step(0, 1)", x -> x.step(0, 1));
        differs("call(1), that none hears", x -> x.call(1));
        differs("undo()", PaperTrellis::undo);
        differs("unsee()", PaperTrellis::unsee);
        differs("seed(78)", x -> x.seed(78));
        differs("nights(1)", x -> x.nights(1));
        differs("keep(0)", x -> x.keep(0));
        differs("keep(1)", x -> x.keep(1));
        differs("goOn(0)", x -> x.goOn(0));
        check.due("ACTS are full", make.get().about(8), 14);
        check.due("SEEN is full", make.get().about(9), 6);
        check.due("THE TEXT is full", make.get().about(10), 48);
        check.due("one is in the last WIDTH", make.get().boy(2, 3), 6);
        check.due("one has come HOME, two are out", make.get().about(7), 2);
    }

    private static void paperRefused() {
        refused("write(-1), BAD ahead of FULL", BAD, x -> x.write(-1));
        refused("write(256), BAD ahead of FULL", BAD, x -> x.write(256));
        refused("write(least)", BAD, x -> x.write(Integer.MIN_VALUE));
        refused("write(most)", BAD, x -> x.write(Integer.MAX_VALUE));
        refused("write(0)", FULL, x -> x.write(0));
        refused("write(255)", FULL, x -> x.write(255));
        refused("paper()", LATE, PaperTrellis::paper);
        refused("see(0, 0, 0)", FULL, x -> x.see(0, 0, 0));
    }

    private static void boysRefused() {
        for (int boy : NO_BOY) {
            refused("boy(" + boy + ", 0)", UNKNOWN, x -> x.boy(boy, 0));
            refused("boy(" + boy + ", 6)", UNKNOWN, x -> x.boy(boy, 6));
            refused("step(" + boy + ", 1)", UNKNOWN, x -> x.step(boy, 1));
            refused("step(" + boy + ", 4)", UNKNOWN, x -> x.step(boy, 4));
            refused("far(" + boy + ")", UNKNOWN, x -> x.far(boy));
            refused("reach(" + boy + ", 1)", UNKNOWN, x -> x.reach(boy, 1));
            refused("reach(" + boy + ", 10)", UNKNOWN, x -> x.reach(boy, 10));
            refused("again(" + boy + ", 1)", UNKNOWN, x -> x.again(boy, 1));
            refused("again(" + boy + ", 4)", UNKNOWN, x -> x.again(boy, 4));
            refused("share(" + boy + ", true)", UNKNOWN, x -> x.share(boy, true));
            refused("share(" + boy + ", false)", UNKNOWN, x -> x.share(boy, false));
            refused("rests(" + boy + ", 0, 0)", UNKNOWN, x -> x.rests(boy, 0, 0));
            refused("rests(0, " + boy + ", 0)", UNKNOWN, x -> x.rests(0, boy, 0));
            refused("rests of both, what", UNKNOWN, x -> x.rests(boy, boy, 2));
            refused("strays(" + boy + ", 1)", UNKNOWN, x -> x.strays(boy, 1, true));
            refused("strays(" + boy + ", 6)", UNKNOWN, x -> x.strays(boy, 6, false));
        }
    }

    private static void cellsRefused() {
        for (int cell : NO_CELL) {
            refused("cell(" + cell + ")", UNKNOWN, x -> x.cell(cell));
            refused("beside(" + cell + ", 0)", UNKNOWN, x -> x.beside(cell, 0, false));
            refused("beside(" + cell + ", 4)", UNKNOWN, x -> x.beside(cell, 4, true));
            refused("call(" + cell + ")", UNKNOWN, x -> x.call(cell));
            refused("cut(" + cell + ")", UNKNOWN, x -> x.cut(cell));
            refused("alike(" + cell + ")", UNKNOWN, x -> x.alike(cell));
        }
        for (int way : NO_WAY) {
            refused("beside(0, " + way + ")", BAD, x -> x.beside(0, way, false));
            refused("step(0, " + way + ")", BAD, x -> x.step(0, way));
            refused("again(0, " + way + ")", BAD, x -> x.again(0, way));
        }
    }

    private static void numbersRefused() {
        int[] ends = {Integer.MIN_VALUE, Integer.MAX_VALUE};
        int[][] bad = {{-1, 11}, {-1, 6}, {-1, 10}, {-1, 2}, {0, 5}, {-5, 5}, {-1, 4}, {0, 6}, {0, 31}};
        for (int i = 0; i < 2; i++) {
            int end = ends[i];
            for (int side = 0; side < 2; side++) {
                int at = side;
                boolean far = i == side;
                int what = far ? end : bad[0][at], ofBoy = far ? end : bad[1][at], n = far ? end : bad[2][at];
                int which = far ? end : bad[3][at], doings = far ? end : bad[4][at], steps = far ? end : bad[5][at];
                int kind = far ? end : bad[6][at], many = far ? end : bad[7][at], m = far ? end : bad[8][at];
                refused("about(" + what + ")", BAD, x -> x.about(what));
                refused("boy(0, " + ofBoy + ")", BAD, x -> x.boy(0, ofBoy));
                refused("reach(0, " + n + ")", BAD, x -> x.reach(0, n));
                refused("calls(" + which + ")", BAD, x -> x.calls(which));
                refused("match(" + which + ")", BAD, x -> x.match(which));
                refused("judge(" + doings + ", 400)", BAD, x -> x.judge(doings, 400));
                refused("judge(" + doings + ", -1)", BAD, x -> x.judge(doings, -1));
                refused("see(" + steps + ", 0, 0), ahead of FULL", BAD, x -> x.see(steps, 0, 0));
                refused("see(0, " + steps + ", 0), ahead of FULL", BAD, x -> x.see(0, steps, 0));
                refused("see(0, 0, " + kind + "), ahead of FULL", BAD, x -> x.see(0, 0, kind));
                refused("rests(0, 1, " + which + ")", BAD, x -> x.rests(0, 1, which));
                refused("rests(1, 1, " + which + ")", BAD, x -> x.rests(1, 1, which));
                refused("strays(0, " + many + ")", BAD, x -> x.strays(0, many, true));
                refused("nights(" + m + ")", BAD, x -> x.nights(m));
                refused("keep(" + which + ")", UNKNOWN, x -> x.keep(which));
                refused("goOn(" + which + ")", UNKNOWN, x -> x.goOn(which));
            }
        }
        refused("rests(2, 2, 0)", BAD, x -> x.rests(2, 2, 0));
        refused("judge(1, -1)", BAD, x -> x.judge(1, -1));
        refused("judge(1, 1000)", BAD, x -> x.judge(1, 1000));
        refused("judge(4, 10 to the 12th)", BAD, x -> x.judge(4, 1000000000000L));
        refused("judge(4, most)", BAD, x -> x.judge(4, Long.MAX_VALUE));
        refused("judge(4, least)", BAD, x -> x.judge(4, Long.MIN_VALUE));
    }

    private static void lateInTheBusyOne() {
        refused("step(2, 1), beyond the last WIDTH", LATE, x -> x.step(2, 1));
        refused("cut(2), that is cut", LATE, x -> x.cut(2));
        refused("cut(0), a LEAF", LATE, x -> x.cut(0));
        refused("cut(3), a ROSE", LATE, x -> x.cut(3));
        refused("cut(4), a BIRD", LATE, x -> x.cut(4));
    }

    private static void lateInTheBegunOne() {
        refused("paper() of nothing", LATE, PaperTrellis::paper);
        refused("step(2, 2), to a THORN", LATE, x -> x.step(2, 2));
        refused("step(2, 3), to a THORN", LATE, x -> x.step(2, 3));
        refused("goOn(0)", LATE, x -> x.goOn(0));
        refused("goOn(1)", LATE, x -> x.goOn(1));
    }

    private static void lateInTheNewOne() {
        refused("paper()", LATE, PaperTrellis::paper);
        refused("undo()", LATE, PaperTrellis::undo);
        refused("cut(0)", LATE, x -> x.cut(0));
        refused("goOn(0)", LATE, x -> x.goOn(0));
        refused("goOn(1)", LATE, x -> x.goOn(1));
        for (int boy = 0; boy < 5; boy++) {
            int told = boy;
            refused("step(" + boy + ", 0)", UNKNOWN, x -> x.step(told, 0));
            refused("boy(" + boy + ", 0)", UNKNOWN, x -> x.boy(told, 0));
        }
        refused("call(4)", UNKNOWN, x -> x.call(4));
        refused("cut(4)", UNKNOWN, x -> x.cut(4));
    }

    /** "In what follows nothing is changed." */
    private static void questionsChangeNothing() {
        asked("fault()", PaperTrellis::fault);
        asked("about(7)", x -> x.about(7));
        asked("cell(5)", x -> x.cell(5));
        asked("beside(5, 1)", x -> x.beside(5, 1, false));
        asked("boy(2, 5)", x -> x.boy(2, 5));
        asked("calls(0)", x -> x.calls(0));
        asked("calls(1)", x -> x.calls(1));
        asked("match(0)", x -> x.match(0));
        asked("match(1)", x -> x.match(1));
        asked("alike(5)", x -> x.alike(5));
        asked("stands()", PaperTrellis::stands);
        asked("judge of doings that can be", x -> x.judge(4, 205302101100L));
        asked("judge of one that can not be", x -> x.judge(4, 205205120999L));
        for (int boy = 0; boy < 3; boy++) {
            int told = boy;
            asked("far(" + boy + ")", x -> x.far(told));
            asked("reach(" + boy + ", 9)", x -> x.reach(told, 9));
            asked("again(" + boy + ", 0)", x -> x.again(told, 0));
            asked("share(" + boy + ")", x -> x.share(told, true));
            asked("strays(" + boy + ", 5)", x -> x.strays(told, 5, true));
            asked("rests(" + boy + ")", x -> x.rests(told, (told + 1) % 3, 1));
        }
    }
}
