/** BOYS, STEPPED, CALLED, CUT, ACTS (promises 10 to 13) at the edges. */
public final class ActsEdgesTest {
    private static final Check check = new Check("ActsEdgesTest");
    private static final int UNKNOWN = PaperTrellis.UNKNOWN, BAD = PaperTrellis.BAD, LATE = PaperTrellis.LATE;
    private static final int LEAST = Integer.MIN_VALUE, MOST = Integer.MAX_VALUE;

    public static void main(String[] args) {
        whoCanBeWhere();
        stepIsUnknownThenBadThenLate();
        stepIsLateWhereThereIsNoPlace();
        stepIsLateWhereBothAreSo();
        aShyOneLeavesItsBirdForGood();
        heardAtOnesOwnAndBesideAlone();
        heardByAPymAlongItsOwnWays();
        heardWhereItCanNotBe();
        heardInEachWidthAndHeight();
        heardOverTheLastJoin();
        callIsUnknown();
        callCountsWhoWereNotHome();
        callOfNoneIsAnAct();
        cutIsUnknownThenLate();
        cutToTheLastThorn();
        cutWhereverItIsPrinted();
        fourteenActsAtMost();
        theFirstActIsForgotten();
        eachKindOfActIsForgotten();
        undoIsLateWhereThereIsNone();
        undoneToTheStart();
        whatIsRefusedIsNoAct();
        check.end();
    }

    /** "A BOY can be at a CELL that is no THORN (SMALL: at any; SHY: that is no BIRD either)." */
    private static void whoCanBeWhere() {
        String[] cells = {"l", "t", "b", "r"};
        boolean[][] can = {{true, false, true, true}, {true, true, true, true}, {true, false, false, true},
            {true, false, true, true}};
        for (int kind = 0; kind < 4; kind++) {
            for (int of = 0; of < 4; of++) {
                String told = "KIND " + kind + " to a CELL of " + cells[of];
                PaperTrellis x = Check.of("W330l" + cells[of] + "lllllllPa" + kind);
                check.due("WAYS, " + told, x.boy(0, 5), can[kind][of] ? 15 : 13);
                check.due("a step, " + told, x.step(0, 1), can[kind][of] ? 1 : LATE);
                check.due("ACTS, " + told, x.about(8), can[kind][of] ? 1 : 0);
            }
        }
    }

    /** Promise 10: "UNKNOWN; BAD: way; LATE"; "Of several what is told first." */
    private static void stepIsUnknownThenBadThenLate() {
        PaperTrellis x = Check.of("W220ltttPa0Pa0");
        int[] boys = {-1, 2, LEAST, MOST};
        int[] ways = {-1, 4, LEAST, MOST};
        for (int boy : boys) {
            check.due("step(" + boy + ", 0)", x.step(boy, 0), UNKNOWN);
            for (int way : ways) {
                check.due("step(" + boy + ", " + way + ")", x.step(boy, way), UNKNOWN);
            }
        }
        for (int way : ways) {
            check.due("step(1, " + way + ")", x.step(1, way), BAD);
        }
        for (int way = 0; way < 4; way++) {
            check.due("step(1, " + way + ")", x.step(1, way), LATE);
        }
        check.due("ACTS", x.about(8), 0);
    }

    /** "LATE: .. there is no such PLACE", at the last PLACE by each WAY, for each KIND */
    private static void stepIsLateWhereThereIsNoPlace() {
        for (int kind = 0; kind < 4; kind++) {
            for (int way = 0; way < 4; way++) {
                PaperTrellis x = Check.of("W331lllllllllPe" + kind);
                int steps = 0;
                while (steps < 30 && x.step(0, way) >= 0) {
                    steps++;
                }
                check.due("steps from the middle", steps, 10);
                check.due("the WAY is shut", x.boy(0, 5), 15 - (1 << way));
                check.due("it stays shut", x.step(0, way), LATE);
                check.due("back is open", Math.min(0, x.step(0, way ^ 1)), 0);
                check.due("and then on again", Math.min(0, x.step(0, way)), 0);
            }
        }
    }

    private static void stepIsLateWhereBothAreSo() {
        PaperTrellis x = Check.of("W220ltllPc0Pc1");
        Check.go(x, 0, "111111");
        Check.go(x, 1, "111111");
        Check.go(x, 0, "1");
        check.due("beyond WIDTH 3", x.step(0, 1), LATE);
        check.due("up, a THORN", x.step(0, 2), LATE);
        Check.go(x, 1, "2");
        check.due("a SMALL one above", x.boy(1, 0), 0);
        Check.go(x, 1, "222222");
        check.due("no HEIGHT, for a SMALL one", x.step(1, 2), LATE);
        Check.go(x, 1, "1");
        check.due("it is at a THORN", x.cell(x.boy(1, 0)), 1);
        check.due("WAYS from the corner", x.boy(1, 5), 9);
    }

    /** SHY: no BIRD, not even that of its HOME, but for being HOME there. */
    private static void aShyOneLeavesItsBirdForGood() {
        PaperTrellis x = Check.of("W220blllPa2");
        check.due("it is HOME", x.about(7), 1);
        check.due("it goes", x.step(0, 3), 2);
        check.due("and not back", x.step(0, 2), LATE);
        check.due("but for a call", x.call(2), 1);
        check.due("it is HOME", x.boy(0, 0), 0);
        check.due("undone", x.undo(), 1);
        check.due("undone", x.undo(), 0);
        check.due("it is HOME", x.about(7), 1);
    }

    /** "each BOY that is at such a CELL, or from which that is beside by any WAY of its own" */
    private static void heardAtOnesOwnAndBesideAlone() {
        hearsWhereItIsBeside(0, false);
        hearsWhereItIsBeside(1, false);
        hearsWhereItIsBeside(2, false);
    }

    /** "by any WAY of its own": a PYM's go straight on over the JOIN */
    private static void heardByAPymAlongItsOwnWays() {
        hearsWhereItIsBeside(3, true);
        PaperTrellis x = Check.of("W331lllllllllPb3Pb0");
        Check.go(x, 0, "1");
        Check.go(x, 1, "1");
        check.due("a PYM at 2 hears at 0", x.judge(2, 200400), PaperTrellis.NONE);
        check.due("a PLAIN one at 2 does not", x.judge(2, 200401), 1);
        check.due("a PYM at 2 does not hear at 3", x.judge(2, 203400), 1);
        check.due("a PLAIN one does", x.judge(2, 203401), PaperTrellis.NONE);
    }

    /** Each cell to stand at, each cell to call at, in a paper that is wide enough for some to be out of hearing. */
    private static void hearsWhereItIsBeside(int kind, boolean straight) {
        for (int home = 0; home < 20; home++) {
            for (int called = 0; called < 20; called++) {
                PaperTrellis x = Check.of(Check.leaves(5, 4, 1) + Check.boy(home, kind));
                int at = x.step(0, 3);
                boolean hears = called == at;
                for (int way = 0; way < 4; way++) {
                    hears |= called == x.beside(at, way, straight);
                }
                check.due("KIND " + kind + " at " + at + ", called at " + called, x.call(called), hears ? 1 : 0);
            }
        }
    }

    /** "(where it can be, set aside)" */
    private static void heardWhereItCanNotBe() {
        String[] cells = {"t", "b", "r", "l"};
        for (String cell : cells) {
            for (int kind = 0; kind < 4; kind++) {
                PaperTrellis x = Check.of("W440lll" + cell + "llllllllllllPb" + kind);
                Check.go(x, 0, "1");
                check.due("KIND " + kind + " hears from a CELL of " + cell, x.call(3), 1);
            }
        }
    }

    /** "at a CELL (in each WIDTH and HEIGHT)" */
    private static void heardInEachWidthAndHeight() {
        for (int width = -3; width <= 3; width++) {
            for (int height = -3; height <= 3; height++) {
                PaperTrellis x = Check.of(Check.leaves(5, 4, 0) + "Pg0");
                Check.go(x, 0, (width < 0 ? "0" : "1").repeat(5 * Math.abs(width)));
                Check.go(x, 0, (height < 0 ? "2" : "3").repeat(4 * Math.abs(height)));
                check.due("WIDTH and 3", x.boy(0, 3), width + 3);
                check.due("HEIGHT and 3", x.boy(0, 4), height + 3);
                check.due("not heard at 8", x.call(8), 0);
                int due = width == 0 && height == 0 ? 0 : 1;
                check.due("heard at 7", x.call(7), due);
                check.due("in WIDTH 0", x.boy(0, 3), 3);
                check.due("in HEIGHT 0", x.boy(0, 4), 3);
                check.due("it is HOME", x.about(7), 1);
            }
        }
    }

    /** A CELL is beside by a WAY, as promise 8 tells it, in the last WIDTH and HEIGHT, too. */
    private static void heardOverTheLastJoin() {
        int[] home = {8, 8, 8, 8};
        int[] steps = {18, 16, 13, 14};
        int[] at = {5, 9, 3, 18};
        for (int way = 0; way < 4; way++) {
            PaperTrellis x = Check.of(Check.leaves(5, 4, 0) + Check.boy(home[way], 0));
            Check.go(x, 0, String.valueOf(way).repeat(steps[way]));
            check.due("the last PLACE", x.boy(0, 0), at[way]);
            check.due("there is none beyond", x.step(0, way), LATE);
            check.due("heard over it", x.call(x.beside(at[way], way, false)), 1);
        }
    }

    /** Promise 11: "UNKNOWN" */
    private static void callIsUnknown() {
        PaperTrellis x = Check.of("W320llllllPa0");
        int[] unknown = {-1, 6, LEAST, MOST};
        for (int cell : unknown) {
            check.due("call(" + cell + ")", x.call(cell), UNKNOWN);
        }
        check.due("no ACTS", x.about(8), 0);
        check.due("call(5)", x.call(5), 0);
        check.due("call(0)", x.call(0), 0);
        check.due("ACTS", x.about(8), 2);
    }

    /** "how many came HOME that were not" */
    private static void callCountsWhoWereNotHome() {
        PaperTrellis x = Check.of(Check.leaves(3, 3, 0) + "Pe0Pe1Pe2Pe3Pe0");
        for (int out = 0; out <= 5; out++) {
            for (int boy = 0; boy < out; boy++) {
                Check.go(x, boy, "1");
            }
            check.due(out + " come HOME", x.call(5), out);
            check.due("all are HOME", x.about(7), 31);
        }
        Check.go(x, 0, "1");
        Check.go(x, 1, "0");
        Check.go(x, 1, "2");
        check.due("one hears, one does not", x.call(8), 1);
        check.due("who is HOME", x.about(7), 29);
    }

    private static void callOfNoneIsAnAct() {
        PaperTrellis x = Check.of(Check.leaves(4, 4, 0) + "Pa0");
        check.due("all are HOME", x.call(0), 0);
        check.due("ACTS", x.about(8), 1);
        Check.go(x, 0, "1");
        check.due("out of hearing", x.call(15), 0);
        check.due("ACTS", x.about(8), 3);
        check.due("undone", x.undo(), 2);
        check.due("it is where it was", x.boy(0, 0), 1);
    }

    /** Promise 12: "UNKNOWN; LATE: it is none" */
    private static void cutIsUnknownThenLate() {
        PaperTrellis x = Check.of("W220ltbr");
        int[] unknown = {-1, 4, LEAST, MOST};
        for (int cell : unknown) {
            check.due("cut(" + cell + ")", x.cut(cell), UNKNOWN);
        }
        check.due("a LEAF", x.cut(0), LATE);
        check.due("a BIRD", x.cut(2), LATE);
        check.due("a ROSE", x.cut(3), LATE);
        check.due("no ACTS", x.about(8), 0);
        check.due("a THORN", x.cut(1), 0);
        check.due("one that was cut", x.cut(1), LATE);
        check.due("ACTS", x.about(8), 1);
        x.undo();
        check.due("a THORN again", x.cut(1), 0);
    }

    /** "how many THORNS are left" */
    private static void cutToTheLastThorn() {
        PaperTrellis x = Check.of("W540" + "t".repeat(20));
        for (int cell = 19; cell >= 0; cell--) {
            check.due("left by cutting " + cell, x.cut(cell), cell);
            check.due("a LEAF at " + cell, x.cell(cell), 0);
        }
        check.due("no THORNS", x.about(4), 0);
        check.due("ACTS", x.about(8), 14);
        for (int left = 13; left >= 0; left--) {
            check.due("undo to " + left, x.undo(), left);
        }
        check.due("those of the last 14 are THORNS", x.about(4), (1 << 14) - 1);
        check.due("the others stay cut", x.undo(), LATE);
    }

    /** "a THORN is a LEAF (wherever it is printed)" */
    private static void cutWhereverItIsPrinted() {
        PaperTrellis x = Check.of("W220ltltPa0");
        check.due("shut to the right", x.step(0, 1), LATE);
        check.due("shut to the left", x.step(0, 0), LATE);
        check.due("cut", x.cut(1), 1);
        for (int i = 1; i <= 7; i++) {
            check.due("open to the right", x.step(0, 1), i % 2);
        }
        check.due("WIDTH and 3", x.boy(0, 3), 6);
        PaperTrellis y = Check.of("W220ltltPa0");
        y.cut(1);
        for (int i = 1; i <= 6; i++) {
            check.due("open to the left", y.step(0, 0), i % 2);
        }
        check.due("WIDTH and 3", y.boy(0, 3), 0);
    }

    /** "ACTS .. are a row (14 at most; ..)" */
    private static void fourteenActsAtMost() {
        PaperTrellis x = Check.of("W220llllPa0");
        for (int acts = 1; acts <= 40; acts++) {
            x.call(0);
            check.due("ACTS behind " + acts, x.about(8), Math.min(acts, 14));
        }
        check.due("undone", x.undo(), 13);
        check.due("one more", x.call(0), 0);
        check.due("ACTS", x.about(8), 14);
        check.due("one more", x.call(0), 0);
        check.due("ACTS", x.about(8), 14);
    }

    /** "when it is full, the first one is forgotten" */
    private static void theFirstActIsForgotten() {
        for (int acts = 13; acts <= 28; acts++) {
            PaperTrellis x = Check.of(Check.leaves(5, 4, 3) + "Pa0");
            int[] cells = new int[acts + 1];
            for (int i = 1; i <= acts; i++) {
                cells[i] = x.step(0, i % 3 == 0 ? 3 : 1);
            }
            int left = Math.min(acts, 14);
            for (int i = 1; i <= left; i++) {
                check.due("undo the " + i + "th of " + acts, x.undo(), left - i);
                check.due("where it was", x.boy(0, 0), cells[acts - i]);
            }
            check.due("no more of " + acts, x.undo(), LATE);
            check.due("who is HOME", x.about(7), acts > 14 ? 0 : 1);
        }
    }

    private static void eachKindOfActIsForgotten() {
        for (int kind = 0; kind < 3; kind++) {
            PaperTrellis x = Check.of("W220lltlPa0Pb0");
            if (kind == 1) {
                Check.go(x, 1, "3");
                x.keep(0);
                x.goOn(0);
            }
            int first = kind == 0 ? x.step(1, 3) : kind == 1 ? x.call(3) : x.cut(2);
            check.due("the first one", first, kind == 0 ? 3 : kind == 1 ? 1 : 0);
            for (int i = 0; i < 14; i++) {
                x.step(0, 1 - i % 2);
            }
            for (int left = 13; left >= 0; left--) {
                check.due("undo to " + left, x.undo(), left);
            }
            check.due("the first one is forgotten", x.undo(), LATE);
            check.due("boy 1", x.boy(1, 0), kind == 0 ? 3 : 1);
            check.due("THORNS", x.about(4), kind == 2 ? 0 : 4);
        }
    }

    /** Promise 13: "LATE: there is none" */
    private static void undoIsLateWhereThereIsNone() {
        PaperTrellis x = Check.of("W220lltlPa0");
        check.due("at first", x.undo(), LATE);
        x.step(0, 1);
        check.due("one", x.undo(), 0);
        check.due("no more", x.undo(), LATE);
        check.due("and again", x.undo(), LATE);
        x.cut(2);
        x.keep(1);
        check.due("keeping leaves it", x.about(8), 1);
        x.goOn(1);
        check.due("none when one goes on", x.undo(), LATE);
        check.due("the THORN stays cut", x.cell(2), 0);
        x.call(0);
        x.paper();
        check.due("none in a new PAPER", x.undo(), LATE);
    }

    private static void undoneToTheStart() {
        PaperTrellis x = Check.of("W230tltlllPb0Pd1Pf3");
        Check.go(x, 1, "020");
        x.cut(0);
        Check.go(x, 0, "0");
        Check.go(x, 2, "113");
        x.cut(2);
        x.call(1);
        check.due("ACTS", x.about(8), 10);
        while (x.undo() > 0) {
            check.due("so far", Math.min(0, x.about(8)), 0);
        }
        check.due("all are HOME", x.about(7), 7);
        check.due("THORNS", x.about(4), 5);
        for (int boy = 0; boy < 3; boy++) {
            check.due("its CELL", x.boy(boy, 0), x.boy(boy, 2));
            check.due("its WIDTH", x.boy(boy, 3), 3);
            check.due("its HEIGHT", x.boy(boy, 4), 3);
        }
    }

    /** "What is refused changes nothing": the row of ACTS, when it is full, too */
    private static void whatIsRefusedIsNoAct() {
        PaperTrellis x = Check.of("W220lltlPa0");
        x.cut(2);
        for (int i = 0; i < 13; i++) {
            x.step(0, 3);
            x.undo();
            x.step(0, i % 2);
        }
        int[] refused = {x.step(1, 0), x.step(0, 4), x.call(4), x.call(-1), x.cut(4), x.cut(0), x.cut(2)};
        int[] due = {UNKNOWN, BAD, UNKNOWN, UNKNOWN, UNKNOWN, LATE, LATE};
        for (int i = 0; i < due.length; i++) {
            check.due("refused " + i, refused[i], due[i]);
        }
        check.due("ACTS", x.about(8), 14);
        for (int left = 13; left >= 0; left--) {
            check.due("undo to " + left, x.undo(), left);
        }
        check.due("the first one was not forgotten", x.cell(2), 1);
    }
}
