/** SLOTS (promises 29 and 30) at the edges. */
public final class SlotsEdgesTest {
    private static final Check check = new Check("SlotsEdgesTest");
    private static final int UNKNOWN = PaperTrellis.UNKNOWN, LATE = PaperTrellis.LATE;
    private static final int[] NO_SLOT = {-1, 2, Integer.MIN_VALUE, Integer.MAX_VALUE};

    public static void main(String[] args) {
        keepIsUnknown();
        goOnIsUnknownThenLate();
        eachSlotIsItsOwn();
        keptTwiceIsTheLast();
        goneOnFromTwice();
        keptWhereThereIsNothing();
        keptCountsWhoIsOut();
        keptIsWhereBoysAre();
        keptIsWhatIsCut();
        noActsWhenOneGoesOn();
        keepingLeavesActs();
        seenAndTheSeedAreNotKept();
        goneWithAnotherPaper();
        check.end();
    }

    /** "SLOTS 0 .. 1", promise 29: "UNKNOWN" */
    private static void keepIsUnknown() {
        PaperTrellis x = Check.of("W220llllPa0");
        Check.go(x, 0, "1");
        for (int slot : NO_SLOT) {
            check.due("keep(" + slot + ")", x.keep(slot), UNKNOWN);
        }
        check.due("nothing is kept in 0", x.goOn(0), LATE);
        check.due("nothing is kept in 1", x.goOn(1), LATE);
        check.due("keep(0)", x.keep(0), 1);
        check.due("keep(1)", x.keep(1), 1);
    }

    /** Promise 30: "UNKNOWN; LATE: none were kept" */
    private static void goOnIsUnknownThenLate() {
        PaperTrellis x = Check.of("W220llllPa0");
        Check.go(x, 0, "1");
        for (int slot : NO_SLOT) {
            check.due("goOn(" + slot + ")", x.goOn(slot), UNKNOWN);
        }
        check.due("goOn(0)", x.goOn(0), LATE);
        check.due("goOn(1)", x.goOn(1), LATE);
        check.due("ACTS stay", x.about(8), 1);
        check.due("where it is stays", x.boy(0, 0), 1);
        x.keep(1);
        check.due("goOn(0) still", x.goOn(0), LATE);
        check.due("ACTS stay still", x.about(8), 1);
        check.due("goOn(1)", x.goOn(1), 1);
        check.due("goOn(0) even then", x.goOn(0), LATE);
    }

    private static void eachSlotIsItsOwn() {
        PaperTrellis x = Check.of("W220lltlPa0");
        check.due("keep(0)", x.keep(0), 0);
        Check.go(x, 0, "1");
        x.cut(2);
        check.due("keep(1)", x.keep(1), 1);
        Check.go(x, 0, "3");
        check.due("goOn(0)", x.goOn(0), 0);
        check.due("its CELL", x.boy(0, 0), 0);
        check.due("THORNS", x.about(4), 4);
        check.due("goOn(1)", x.goOn(1), 1);
        check.due("its CELL", x.boy(0, 0), 1);
        check.due("THORNS", x.about(4), 0);
        check.due("goOn(0) again", x.goOn(0), 0);
    }

    private static void keptTwiceIsTheLast() {
        for (int slot = 0; slot < 2; slot++) {
            PaperTrellis x = Check.of("W220lltlPa0");
            x.keep(slot);
            Check.go(x, 0, "1");
            check.due("kept anew", x.keep(slot), 1);
            Check.go(x, 0, "3");
            x.goOn(slot);
            check.due("its CELL", x.boy(0, 0), 1);
        }
    }

    private static void goneOnFromTwice() {
        PaperTrellis x = Check.of("W220lltlPa0");
        Check.go(x, 0, "1");
        x.keep(0);
        for (int i = 0; i < 3; i++) {
            Check.go(x, 0, "33");
            x.cut(2);
            check.due("gone on", x.goOn(0), 1);
            check.due("its CELL", x.boy(0, 0), 1);
            check.due("its HEIGHT", x.boy(0, 4), 3);
            check.due("THORNS", x.about(4), 4);
        }
        x.call(0);
        check.due("what comes behind does not change what is kept", x.goOn(0), 1);
    }

    private static void keptWhereThereIsNothing() {
        PaperTrellis x = new PaperTrellis();
        check.due("no BOYS", x.keep(0), 0);
        check.due("no BOYS", x.goOn(0), 0);
        PaperTrellis y = Check.of("W540" + "t".repeat(20));
        y.cut(19);
        y.keep(1);
        y.cut(0);
        check.due("no BOYS", y.goOn(1), 0);
        check.due("the last CELL is cut, the first is not", y.about(4), 0x7FFFF);
    }

    /** "how many BOYS are not HOME" */
    private static void keptCountsWhoIsOut() {
        PaperTrellis x = Check.of(Check.leaves(3, 3, 0) + "Pa0Pb1Pc2Pd3Pe0");
        check.due("none", x.keep(0), 0);
        for (int boy = 4; boy >= 0; boy--) {
            Check.go(x, boy, "1");
            check.due("so many are out", x.keep(1), 5 - boy);
        }
        check.due("none was", x.goOn(0), 0);
        check.due("all are HOME", x.about(7), 31);
        check.due("all were", x.goOn(1), 5);
        check.due("none is HOME", x.about(7), 0);
        Check.go(x, 2, "0");
        Check.go(x, 2, "111");
        check.due("at its CELL in WIDTH 1 it is out", x.keep(0), 5);
    }

    /** "keep where BOYS are": CELL, WIDTH and HEIGHT, to the last PLACES */
    private static void keptIsWhereBoysAre() {
        PaperTrellis x = Check.of(Check.leaves(2, 2, 0) + "Pa0Pd0Pa3Pd1Pb2");
        Check.go(x, 0, "000000222222");
        Check.go(x, 1, "111111333333");
        x.keep(0);
        for (int cell = 0; cell < 4; cell++) {
            x.call(cell);
        }
        check.due("all are HOME", x.about(7), 31);
        check.due("gone on", x.goOn(0), 2);
        check.due("the first one's WIDTH", x.boy(0, 3), 0);
        check.due("the first one's HEIGHT", x.boy(0, 4), 0);
        check.due("the first one's CELL", x.boy(0, 0), 0);
        check.due("the next one's WIDTH", x.boy(1, 3), 6);
        check.due("the next one's HEIGHT", x.boy(1, 4), 6);
        check.due("the next one's CELL", x.boy(1, 0), 3);
        check.due("who is HOME", x.about(7), 28);
    }

    /** "what is CUT": more or fewer than now */
    private static void keptIsWhatIsCut() {
        PaperTrellis x = Check.of("W220tttlPd0");
        x.keep(0);
        x.cut(0);
        x.cut(1);
        x.keep(1);
        x.cut(2);
        check.due("gone on", x.goOn(1), 0);
        check.due("THORNS", x.about(4), 4);
        check.due("gone on", x.goOn(0), 0);
        check.due("all are THORNS again", x.about(4), 7);
        check.due("gone on", x.goOn(1), 0);
        check.due("THORNS", x.about(4), 4);
    }

    /** "(no ACTS when one goes on)" */
    private static void noActsWhenOneGoesOn() {
        PaperTrellis x = Check.of("W220llllPa0");
        x.keep(0);
        Check.go(x, 0, "10101010101010");
        check.due("ACTS are full", x.about(8), 14);
        check.due("gone on", x.goOn(0), 0);
        check.due("no ACTS", x.about(8), 0);
        check.due("nothing to undo", x.undo(), LATE);
        Check.go(x, 0, "1");
        check.due("one ACT", x.about(8), 1);
        check.due("undone", x.undo(), 0);
        check.due("to where it went on", x.about(7), 1);
        check.due("nothing more", x.undo(), LATE);
    }

    private static void keepingLeavesActs() {
        PaperTrellis x = Check.of("W220llllPa0");
        Check.go(x, 0, "10101010101010");
        x.keep(0);
        x.keep(1);
        check.due("ACTS", x.about(8), 14);
        for (int left = 13; left >= 0; left--) {
            check.due("undo to " + left, x.undo(), left);
        }
    }

    private static void seenAndTheSeedAreNotKept() {
        PaperTrellis x = Check.of("W220llllPa0");
        x.see(0, 0, 0);
        x.seed(5);
        x.keep(0);
        x.see(1, 0, 0);
        x.seed(6);
        x.write('P');
        x.goOn(0);
        check.due("SEEN", x.about(9), 2);
        check.due("THE SEED", x.seed(0), 6);
        check.due("bytes of THE TEXT", x.about(10), 12);
    }

    private static void goneWithAnotherPaper() {
        PaperTrellis x = Check.of("W220llllPa0");
        x.keep(0);
        x.keep(1);
        x.write('?');
        check.due("refused", x.paper(), LATE);
        check.due("kept still", x.goOn(0), 0);
        check.due("kept still", x.goOn(1), 0);
        Check.write(x, "W220llllPa0");
        check.due("taken", x.paper(), 221);
        check.due("gone", x.goOn(0), LATE);
        check.due("gone", x.goOn(1), LATE);
        x.keep(1);
        check.due("gone still", x.goOn(0), LATE);
        check.due("kept anew", x.goOn(1), 0);
    }
}
