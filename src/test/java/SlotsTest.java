/** Promises 29 and 30: keep, goOn. */
public final class SlotsTest {
    private static final Check check = new Check("SlotsTest");
    private static final int UNKNOWN = PaperTrellis.UNKNOWN, LATE = PaperTrellis.LATE;

    public static void main(String[] args) {
        refused();
        keptAndGoneOn();
        check.end();
    }

    private static void refused() {
        PaperTrellis x = Check.of("W220llllPa0");
        check.due("keep(2)", x.keep(2), UNKNOWN);
        check.due("keep(-1)", x.keep(-1), UNKNOWN);
        check.due("goOn(2)", x.goOn(2), UNKNOWN);
        check.due("goOn(-1)", x.goOn(-1), UNKNOWN);
        x.step(0, 1);
        check.due("goOn(0)", x.goOn(0), LATE);
        check.due("keep(1)", x.keep(1), 1);
        check.due("goOn(0) still", x.goOn(0), LATE);
        check.due("ACTS stay", x.about(8), 1);
        check.due("undo()", x.undo(), 0);
    }

    private static void keptAndGoneOn() {
        PaperTrellis x = Check.of("W220lltlPa0Pb3Pb0");
        check.due("keep(0)", x.keep(0), 0);
        x.step(1, 1);
        x.step(2, 3);
        x.cut(2);
        check.due("keep(1)", x.keep(1), 2);
        check.due("keeping is no ACT", x.about(8), 3);
        x.seed(4);
        x.see(0, 0, 0);
        check.due("goOn(0)", x.goOn(0), 0);
        check.due("no ACTS", x.about(8), 0);
        check.due("no undo", x.undo(), LATE);
        check.due("the THORN", x.about(4), 4);
        check.due("who is HOME", x.about(7), 7);
        check.due("THE SEED stays", x.seed(4), 4);
        check.due("SEEN stays", x.about(9), 1);
        x.step(0, 1);
        check.due("goOn(1)", x.goOn(1), 2);
        check.due("what is CUT", x.about(4), 0);
        check.due("who is HOME", x.about(7), 1);
        check.due("boy 1", x.boy(1, 0), 0);
        check.due("boy 1", x.boy(1, 3), 4);
        check.due("boy 2", x.boy(2, 0), 3);
        x.call(1);
        check.due("goOn(1) again", x.goOn(1), 2);
        x.call(0);
        check.due("kept anew", x.keep(1), 1);
        x.step(0, 3);
        check.due("goOn(1) anew", x.goOn(1), 1);
        check.due("who is HOME", x.about(7), 3);
        check.due("goOn(0) is as it was", x.goOn(0), 0);
    }
}
