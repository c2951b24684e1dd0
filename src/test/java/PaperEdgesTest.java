/** Promises 1 and 5 to 9 at the edges: a new object, paper, about, cell, beside, boy. */
public final class PaperEdgesTest {
    private static final Check check = new Check("PaperEdgesTest");
    private static final int UNKNOWN = PaperTrellis.UNKNOWN, BAD = PaperTrellis.BAD, LATE = PaperTrellis.LATE;
    private static final int NONE = PaperTrellis.NONE;
    private static final int LEAST = Integer.MIN_VALUE, MOST = Integer.MAX_VALUE;

    public static void main(String[] args) {
        theRefusalsAreNumbers();
        leavesAlone();
        aNewObjectHasNoBoys();
        aPaperClearsWhatIsFull();
        aPaperLeavesWhatIsSeenAndTheSeed();
        aPaperTakenTwiceClearsToo();
        aboutTakesNoughtToTen();
        aboutWhereThereIsNothing();
        aboutWhereAllIsFull();
        cellIsUnknown();
        besideIsUnknownAheadOfBad();
        boyIsUnknownAheadOfBad();
        boyOfTheFirstAndOfTheLast();
        homeIsAPlace();
        check.end();
    }

    /** "UNKNOWN -1 .., BAD -2, LATE -3, FULL -4", "NONE is -9" */
    private static void theRefusalsAreNumbers() {
        check.due("UNKNOWN", PaperTrellis.UNKNOWN, -1);
        check.due("BAD", PaperTrellis.BAD, -2);
        check.due("LATE", PaperTrellis.LATE, -3);
        check.due("FULL", PaperTrellis.FULL, -4);
        check.due("NONE", PaperTrellis.NONE, -9);
    }

    /** "At first there are 2 ROWS of 2 LEAVES, the DROP is 0, there are no BOYS." */
    private static void leavesAlone() {
        PaperTrellis x = new PaperTrellis();
        int[] about = {2, 2, 0, 0, 0, 0, 0, 0, 0, 0, 0};
        for (int what = 0; what < about.length; what++) {
            check.due("about(" + what + ") at first", x.about(what), about[what]);
        }
        for (int cell = 0; cell < 4; cell++) {
            check.due("cell(" + cell + ") at first", x.cell(cell), 0);
            for (int way = 0; way < 4; way++) {
                int due = way < 2 ? cell ^ 1 : cell ^ 2;
                check.due("beside at first", x.beside(cell, way, false), due);
                check.due("beside, straight, at first", x.beside(cell, way, true), due);
            }
            check.due("alike(" + cell + ") at first", x.alike(cell), 15);
        }
        check.due("the 5th CELL", x.cell(4), UNKNOWN);
        check.due("STANDS at first", x.stands(), 15);
        check.due("MATCH at first", x.match(0), 0);
        check.due("unlike ROWS at first", x.match(1), 0);
        check.due("THE SEED at first", x.seed(0), 0);
    }

    private static void aNewObjectHasNoBoys() {
        PaperTrellis x = new PaperTrellis();
        for (int boy = 0; boy < 6; boy++) {
            check.due("boy", x.boy(boy, 0), UNKNOWN);
            check.due("step", x.step(boy, 0), UNKNOWN);
            check.due("far", x.far(boy), UNKNOWN);
            check.due("reach", x.reach(boy, 0), UNKNOWN);
            check.due("again", x.again(boy, 0), UNKNOWN);
            check.due("share", x.share(boy, true), UNKNOWN);
            check.due("strays", x.strays(boy, 1, true), UNKNOWN);
            check.due("rests", x.rests(boy, boy + 1, 0), UNKNOWN);
            check.due("judge, a step", x.judge(1, 100 + 10 * boy), 0);
            check.due("judge, HOME", x.judge(1, 400 + boy), 0);
        }
        check.due("none comes HOME", x.call(0), 0);
        check.due("that is an ACT", x.about(8), 1);
        check.due("no THORN can be cut", x.cut(0), LATE);
        check.due("CALLS, which", x.calls(0), 0);
        check.due("CALLS, how many", x.calls(1), 0);
        check.due("nights", x.nights(30), 0);
        check.due("goOn(0) ahead of keep", x.goOn(0), LATE);
        check.due("goOn(1) ahead of keep", x.goOn(1), LATE);
        check.due("keep", x.keep(1), 0);
        check.due("goOn", x.goOn(1), 0);
        check.due("undone", x.undo(), LATE);
    }

    private static final String PLACE = "W230tltbrlPb0Pb1Pf3Pd2Pb0";

    /** An object with 14 ACTS, a cut THORN, both SLOTS kept, 6 SEEN and a SEED. */
    private static PaperTrellis full() {
        PaperTrellis x = Check.of(PLACE);
        x.cut(0);
        Check.go(x, 0, "1010101010101");
        x.keep(0);
        x.keep(1);
        for (int i = 0; i < 6; i++) {
            x.see(0, 0, 0);
        }
        x.seed(-7);
        return x;
    }

    /** Promise 5: "no ACTS; what was kept is gone" */
    private static void aPaperClearsWhatIsFull() {
        PaperTrellis x = full();
        check.due("ACTS ahead of it", x.about(8), 14);
        Check.write(x, "W220tlll");
        check.due("paper()", x.paper(), 220);
        check.due("no ACTS", x.about(8), 0);
        check.due("nothing to undo", x.undo(), LATE);
        check.due("SLOT 0 is gone", x.goOn(0), LATE);
        check.due("SLOT 1 is gone", x.goOn(1), LATE);
        check.due("no BOYS", x.about(3), 0);
        check.due("no BOY is HOME", x.about(7), 0);
        check.due("what was CUT is a THORN", x.cell(0), 1);
        check.due("THORNS", x.about(4), 1);
    }

    /** Promise 5: "SEEN, THE SEED stay", and so does THE TEXT */
    private static void aPaperLeavesWhatIsSeenAndTheSeed() {
        PaperTrellis x = full();
        Check.write(x, "W220tlll");
        x.paper();
        check.due("SEEN", x.about(9), 6);
        check.due("SEEN is full still", x.see(0, 0, 0), PaperTrellis.FULL);
        check.due("STANDS in the new PAPER", x.stands(), 14);
        check.due("THE SEED", x.seed(0), -7);
        check.due("bytes of THE TEXT", x.about(10), 8);
        check.due("no FAULT", x.fault(), NONE);
        check.due("unsee", x.unsee(), 6);
    }

    private static void aPaperTakenTwiceClearsToo() {
        PaperTrellis x = full();
        check.due("the same PAPER again", x.paper(), 235);
        check.due("all are HOME", x.about(7), 31);
        check.due("no ACTS", x.about(8), 0);
        check.due("nothing is CUT", x.about(4), 5);
        check.due("SLOT 0 is gone", x.goOn(0), LATE);
        check.due("SLOT 1 is gone", x.goOn(1), LATE);
        check.due("SLOT 0 can be kept anew", x.keep(0), 0);
        check.due("and gone on from", x.goOn(0), 0);
        check.due("SLOT 1 is gone still", x.goOn(1), LATE);
    }

    /** Promise 6: "w (what = 0) .. bytes of THE TEXT (10). BAD." */
    private static void aboutTakesNoughtToTen() {
        PaperTrellis x = full();
        int[] bad = {-1, 11, -2, 12, LEAST, MOST, 256, -246};
        for (int what : bad) {
            check.due("about(" + what + ")", x.about(what), BAD);
        }
        int[] due = {2, 3, 0, 5, 4, 8, 16, 30, 14, 6, 25};
        for (int what = 0; what < due.length; what++) {
            check.due("about(" + what + ")", x.about(what), due[what]);
        }
    }

    private static void aboutWhereThereIsNothing() {
        PaperTrellis x = Check.of("W220llllPa0");
        check.due("no THORNS", x.about(4), 0);
        check.due("no BIRDS", x.about(5), 0);
        check.due("no ROSES", x.about(6), 0);
        check.due("one is HOME", x.about(7), 1);
        x.step(0, 1);
        check.due("none is HOME", x.about(7), 0);
        check.due("an ACT", x.about(8), 1);
        x.undo();
        check.due("no ACT", x.about(8), 0);
        x.wipe();
        check.due("no bytes", x.about(10), 0);
    }

    private static void aboutWhereAllIsFull() {
        String[] kinds = {"t", "b", "r"};
        for (int i = 0; i < kinds.length; i++) {
            PaperTrellis x = Check.of("W540" + kinds[i].repeat(20));
            for (int of = 4; of <= 6; of++) {
                check.due("20 of " + kinds[i] + ", about(" + of + ")", x.about(of), of == 4 + i ? 0xFFFFF : 0);
            }
        }
        PaperTrellis y = Check.of("W540" + "l".repeat(20) + "Pa0Pb0Pc0Pd0Pt0");
        check.due("all five are HOME", y.about(7), 31);
        y.step(4, 0);
        check.due("all but the last are HOME", y.about(7), 15);
        y.step(0, 3);
        check.due("and but the first", y.about(7), 14);
        PaperTrellis z = Check.of("W540" + "l".repeat(19) + "r");
        check.due("the last CELL alone", z.about(6), 1 << 19);
    }

    /** Promise 7: "UNKNOWN" */
    private static void cellIsUnknown() {
        PaperTrellis x = Check.of("W540" + "l".repeat(19) + "r");
        int[] unknown = {-1, 20, -20, 21, 32, LEAST, MOST};
        for (int cell : unknown) {
            check.due("cell(" + cell + ")", x.cell(cell), UNKNOWN);
        }
        check.due("the first", x.cell(0), 0);
        check.due("the last", x.cell(19), 3);
        Check.write(x, "W220bllt");
        x.paper();
        check.due("the first of less", x.cell(0), 2);
        check.due("the last of less", x.cell(3), 1);
        check.due("one that was", x.cell(4), UNKNOWN);
        check.due("the last that was", x.cell(19), UNKNOWN);
    }

    /** Promise 8: "UNKNOWN; BAD: way"; "Of several what is told first." */
    private static void besideIsUnknownAheadOfBad() {
        PaperTrellis x = Check.of("W320llllll");
        int[] cells = {-1, 6, LEAST, MOST};
        int[] ways = {-1, 4, LEAST, MOST};
        for (int i = 0; i < 4; i++) {
            boolean straight = i % 2 == 0;
            check.due("no such CELL", x.beside(cells[i], 3, straight), UNKNOWN);
            check.due("no such WAY", x.beside(5, ways[i], straight), BAD);
            for (int way : ways) {
                check.due("neither", x.beside(cells[i], way, straight), UNKNOWN);
            }
        }
        check.due("the last CELL, the last WAY", x.beside(5, 3, false), 2);
        check.due("the first CELL, the first WAY", x.beside(0, 0, true), 2);
    }

    /** Promise 9: "UNKNOWN; BAD" */
    private static void boyIsUnknownAheadOfBad() {
        PaperTrellis x = Check.of("W220llllPa0Pb1");
        int[] boys = {-1, 2, LEAST, MOST};
        int[] whats = {-1, 6, LEAST, MOST};
        for (int boy : boys) {
            check.due("boy(" + boy + ", 0)", x.boy(boy, 0), UNKNOWN);
            for (int what : whats) {
                check.due("boy(" + boy + ", " + what + ")", x.boy(boy, what), UNKNOWN);
            }
        }
        for (int what : whats) {
            check.due("boy(1, " + what + ")", x.boy(1, what), BAD);
        }
        check.due("boy(1, 5)", x.boy(1, 5), 15);
    }

    private static void boyOfTheFirstAndOfTheLast() {
        PaperTrellis x = Check.of("W540l" + "t".repeat(18) + "lPa3Pt0Pa2Pt2Pt1");
        int[][] due = {{0, 3, 0, 3, 3, 0}, {19, 0, 19, 3, 3, 0}, {0, 2, 0, 3, 3, 0}, {19, 2, 19, 3, 3, 0},
            {19, 1, 19, 3, 3, 15}};
        for (int boy = 0; boy < 5; boy++) {
            for (int what = 0; what < 6; what++) {
                check.due("boy(" + boy + ", " + what + ")", x.boy(boy, what), due[boy][what]);
            }
        }
        check.due("a sixth", x.boy(5, 0), UNKNOWN);
    }

    /** HOME is a PLACE: the CELL of one's HOME in another WIDTH or HEIGHT is none. */
    private static void homeIsAPlace() {
        PaperTrellis x = Check.of("W220llllPa0");
        Check.go(x, 0, "11");
        check.due("its CELL", x.boy(0, 0), 0);
        check.due("the CELL of its HOME", x.boy(0, 2), 0);
        check.due("it is not HOME in WIDTH 1", x.about(7), 0);
        check.due("and not judged so", x.judge(1, 400), 0);
        Check.go(x, 0, "0033");
        check.due("it is not HOME in HEIGHT 1", x.about(7), 0);
        check.due("kept, not HOME", x.keep(0), 1);
        Check.go(x, 0, "22");
        check.due("it is HOME", x.about(7), 1);
        check.due("and judged so", x.judge(1, 400), NONE);
    }
}
