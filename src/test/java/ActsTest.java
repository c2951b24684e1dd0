/** Promises 10 to 13: step, call, cut, undo. */
public final class ActsTest {
    private static final Check check = new Check("ActsTest");
    private static final int UNKNOWN = PaperTrellis.UNKNOWN, BAD = PaperTrellis.BAD, LATE = PaperTrellis.LATE;

    public static void main(String[] args) {
        stepsOverJoins();
        stepsByKind();
        stepsToTheEdge();
        callsHeard();
        callsByKind();
        callsAtTheEdge();
        cuts();
        undone();
        forgotten();
        check.end();
    }

    private static void stepsOverJoins() {
        PaperTrellis x = Check.of("W231llllllPa0Pa3");
        int[] plain = {1, 2, 3, 4, 5, 0};
        for (int i = 0; i < plain.length; i++) {
            check.due("plain right " + i, x.step(0, 1), plain[i]);
            check.due("PYM right " + i, x.step(1, 1), (i + 1) % 2);
        }
        check.due("WIDTH", x.boy(0, 3), 6);
        check.due("HEIGHT stays", x.boy(0, 4), 3);
        check.due("back left", x.step(0, 0), 5);
        check.due("up", x.step(0, 2), 3);
        check.due("up", x.step(0, 2), 1);
        check.due("up over", x.step(0, 2), 5);
        check.due("HEIGHT is less", x.boy(0, 4), 2);
        check.due("down over", x.step(0, 3), 1);
        check.due("HEIGHT is as before", x.boy(0, 4), 3);
        check.due("step(2, 0)", x.step(2, 0), UNKNOWN);
        check.due("step(-1, 7)", x.step(-1, 7), UNKNOWN);
        check.due("step(0, 4)", x.step(0, 4), BAD);
        check.due("step(0, -1)", x.step(0, -1), BAD);
        check.due("ACTS", x.about(8), 14);
    }

    private static void stepsByKind() {
        PaperTrellis x = Check.of("W220ltblPa0Pa1Pa2Pa3");
        int[] right = {LATE, 1, LATE, LATE};
        int[] down = {2, 3, LATE, 2};
        for (int boy = 0; boy < 4; boy++) {
            check.due("right of kind " + boy, x.step(boy, 1), right[boy]);
            check.due("down of kind " + boy, x.step(boy, 3), down[boy]);
        }
        check.due("who is HOME", x.about(7), 4);
        check.due("no ACT by a refusal", x.about(8), 4);
        PaperTrellis y = Check.of("W220bbblPa2");
        check.due("a SHY one goes from a BIRD to none", y.step(0, 1), LATE);
        PaperTrellis z = Check.of("W220blllPa2");
        check.due("a SHY one goes from its BIRD", z.step(0, 1), 1);
        check.due("and not back", z.step(0, 0), LATE);
    }

    private static void stepsToTheEdge() {
        for (int way = 0; way < 4; way++) {
            PaperTrellis x = Check.of("W221llll" + (way == 0 || way == 2 ? "Pa0" : "Pd0"));
            int steps = 0;
            while (steps < 20 && x.step(0, way) >= 0) {
                steps++;
            }
            check.due("steps by way " + way, steps, 6);
            check.due("ways open there by " + way, x.boy(0, 5), 15 - (1 << way));
            check.due("its number by " + way, x.boy(0, way < 2 ? 3 : 4), way % 2 == 0 ? 0 : 6);
            check.due("LATE by " + way, x.step(0, way), LATE);
        }
    }

    private static void callsHeard() {
        PaperTrellis x = Check.of("W330lllllllllPa0Pe0Pi0");
        check.due("all are HOME", x.call(4), 0);
        check.due("that is an ACT", x.about(8), 1);
        x.step(0, 1);
        x.step(1, 1);
        x.step(2, 1);
        check.due("call(9)", x.call(9), UNKNOWN);
        check.due("call(-1)", x.call(-1), UNKNOWN);
        check.due("heard over the join at 3", x.call(3), 2);
        check.due("who is HOME", x.about(7), 6);
        check.due("heard by none", x.call(8), 0);
        check.due("heard on one's own CELL", x.call(1), 1);
        check.due("who is HOME", x.about(7), 7);
    }

    private static void callsByKind() {
        PaperTrellis x = Check.of("W221llllPb0Pb3");
        x.step(0, 3);
        x.step(1, 3);
        check.due("both at 3", x.boy(0, 0) * 10 + x.boy(1, 0), 33);
        check.due("plain: 2, 0 (over), 1; PYM: 2, 1", x.call(0), 1);
        check.due("PLAIN is HOME", x.about(7), 1);
        check.due("PYM hears at 2", x.call(2), 1);
        PaperTrellis y = Check.of("W220ltllPa0");
        y.step(0, 3);
        check.due("heard beside", y.call(3), 1);
        y.step(0, 3);
        check.due("out of hearing", y.call(1), 0);
        PaperTrellis z = Check.of("W320ltlllbPa2");
        z.step(0, 3);
        z.step(0, 1);
        check.due("heard from a THORN above", z.call(1), 1);
        z.step(0, 3);
        z.step(0, 1);
        check.due("heard from a BIRD beside", z.call(5), 1);
    }

    private static void callsAtTheEdge() {
        PaperTrellis x = Check.of("W220llllPa0");
        for (int i = 0; i < 7; i++) {
            check.due("right", x.step(0, 1), (i + 1) % 2);
        }
        check.due("no way on", x.step(0, 1), LATE);
        check.due("heard by cells", x.call(0), 1);
    }

    private static void cuts() {
        PaperTrellis x = Check.of("W220ttblPd0");
        check.due("cut(2)", x.cut(2), LATE);
        check.due("cut(3)", x.cut(3), LATE);
        check.due("cut(4)", x.cut(4), UNKNOWN);
        check.due("cut(-1)", x.cut(-1), UNKNOWN);
        check.due("step(0, 2)", x.step(0, 2), LATE);
        check.due("cut(1)", x.cut(1), 1);
        check.due("cell(1)", x.cell(1), 0);
        check.due("cut(1) again", x.cut(1), LATE);
        check.due("step(0, 2)", x.step(0, 2), 1);
        check.due("cut(0)", x.cut(0), 0);
        check.due("ACTS", x.about(8), 3);
        check.due("wherever it is printed", x.step(0, 1), 0);
    }

    private static void undone() {
        PaperTrellis x = Check.of("W220tlllPb0Pc0");
        check.due("undo()", x.undo(), LATE);
        x.step(0, 3);
        x.step(1, 1);
        x.cut(0);
        x.step(0, 0);
        x.step(0, 2);
        check.due("boy 0 is at the cut cell", x.boy(0, 0), 0);
        x.call(0);
        check.due("who is HOME", x.about(7), 1);
        check.due("undo the call", x.undo(), 5);
        check.due("who is HOME", x.about(7), 0);
        check.due("boy 0 is there again", x.boy(0, 0), 0);
        check.due("undo a step", x.undo(), 4);
        check.due("undo a step", x.undo(), 3);
        check.due("boy 0", x.boy(0, 0), 3);
        check.due("undo the cut", x.undo(), 2);
        check.due("the THORN", x.cell(0), 1);
        check.due("boy 1", x.boy(1, 0), 3);
        check.due("undo a step", x.undo(), 1);
        check.due("undo a step", x.undo(), 0);
        check.due("who is HOME", x.about(7), 3);
        check.due("undo()", x.undo(), LATE);
    }

    private static void forgotten() {
        PaperTrellis x = Check.of("W220llltPa0");
        x.cut(3);
        for (int i = 0; i < 13; i++) {
            x.step(0, i % 2);
        }
        check.due("ACTS are 14", x.about(8), 14);
        check.due("one more", x.call(3), 1);
        check.due("ACTS are 14 still", x.about(8), 14);
        for (int left = 13; left >= 0; left--) {
            check.due("undo to " + left, x.undo(), left);
        }
        check.due("the cut is forgotten", x.undo(), LATE);
        check.due("and stands", x.cell(3), 0);
        check.due("the boy is HOME", x.about(7), 1);
        for (int i = 0; i < 40; i++) {
            x.step(0, 1 - i % 2);
        }
        check.due("undo()", x.undo(), 13);
        check.due("the last step is undone", x.boy(0, 0), 1);
        check.due("and another comes", x.step(0, 3), 3);
        check.due("ACTS", x.about(8), 14);
    }
}
