/** Promises 1 to 9: a new object, write, wipe, fault, paper, about, cell, beside, boy. */
public final class PaperTest {
    private static final Check check = new Check("PaperTest");

    public static void main(String[] args) {
        newObject();
        writeAndWipe();
        faults();
        faultOfThornsAlone();
        paperTaken();
        paperClears();
        aboutAll();
        cells();
        besides();
        boys();
        check.end();
    }

    private static void newObject() {
        PaperTrellis x = new PaperTrellis();
        int[] abouts = {2, 2, 0, 0, 0, 0, 0, 0, 0, 0, 0};
        for (int what = 0; what < abouts.length; what++) {
            check.due("new: about(" + what + ")", x.about(what), abouts[what]);
        }
        for (int cell = 0; cell < 4; cell++) {
            check.due("new: cell(" + cell + ")", x.cell(cell), 0);
        }
        check.due("new: cell(4)", x.cell(4), PaperTrellis.UNKNOWN);
        check.due("new: seed(3)", x.seed(3), 0);
        check.due("new: undo()", x.undo(), PaperTrellis.LATE);
        check.due("new: goOn(0)", x.goOn(0), PaperTrellis.LATE);
        check.due("new: stands()", x.stands(), 15);
    }

    private static void writeAndWipe() {
        PaperTrellis x = new PaperTrellis();
        check.due("write(-1)", x.write(-1), PaperTrellis.BAD);
        check.due("write(256)", x.write(256), PaperTrellis.BAD);
        check.due("about(10) behind BAD", x.about(10), 0);
        check.due("write(0)", x.write(0), 1);
        check.due("write(255)", x.write(255), 2);
        check.due("wipe()", x.wipe(), 2);
        check.due("wipe() again", x.wipe(), 0);
        for (int i = 1; i <= 48; i++) {
            check.due("write to " + i, x.write('l'), i);
        }
        check.due("write the 49th", x.write('l'), PaperTrellis.FULL);
        check.due("BAD is told ahead of FULL", x.write(256), PaperTrellis.BAD);
        check.due("about(10) when full", x.about(10), 48);
        check.due("wipe() when full", x.wipe(), 48);
        check.due("write behind wipe", x.write('W'), 1);
    }

    private static void fault(String text, int due) {
        PaperTrellis x = new PaperTrellis();
        Check.write(x, text);
        check.due("fault of " + text, x.fault(), due);
        check.due("paper of " + text, Math.min(x.paper(), 0), due == PaperTrellis.NONE ? 0 : PaperTrellis.LATE);
    }

    private static void faults() {
        int none = PaperTrellis.NONE;
        fault("", 0);
        fault("w", 0);
        fault("W", 1);
        fault("W1", 1);
        fault("W6", 1);
        fault("W2", 2);
        fault("W21", 2);
        fault("W25", 2);
        fault("W24", 3);
        fault("W24/", 3);
        fault("W244", 3);
        fault("W243", 4);
        fault("W222", 3);
        fault("W221", 4);
        fault("W220lll", 7);
        fault("W220lllL", 7);
        fault("W220llll", none);
        fault("W220ltbr", none);
        fault("W220llllp", 8);
        fault("W220lllll", 8);
        fault("W220llllP", 9);
        fault("W220llllP`", 9);
        fault("W220llllPe", 9);
        fault("W220llllPd", 10);
        fault("W220llltPd0", 9);
        fault("W220llltPd1", 9);
        fault("W220llllPd/", 10);
        fault("W220llllPd4", 10);
        fault("W220llllPd3", none);
        fault("W220bbbbPd2", none);
        fault("W220llllPd3Pd3Pa0Pb1Pc2", none);
        fault("W220llllPd3Pd3Pa0Pb1Pc2P", 23);
        fault("W220llllPd3Pd3Pa0Pb1Pc2x", 23);
        fault("W543llllllllllllllllllllPt3", none);
        fault("W543llllllllllllllllllllPu3", 25);
        fault("W220x" + "y".repeat(43), 4);
    }

    private static void faultOfThornsAlone() {
        fault("W220tttt", PaperTrellis.NONE);
        fault("W220ttttP", 8);
        fault("W220ttttPa0", 8);
        fault("W220tttlP", 9);
        fault("W220tttlPa0", 9);
        fault("W220tttlPd0", PaperTrellis.NONE);
    }

    private static void paperTaken() {
        PaperTrellis x = new PaperTrellis();
        Check.write(x, "W543lllllrlllllllllllllbPa0Pa3Pt1Pb2Pc0");
        check.due("paper()", x.paper(), 545);
        check.due("the text stays", x.about(10), 39);
        check.due("paper() again", x.paper(), 545);
        Check.write(x, "W220lll");
        check.due("paper() of a part", x.paper(), PaperTrellis.LATE);
        check.due("about(0) behind LATE", x.about(0), 5);
        check.due("about(3) behind LATE", x.about(3), 5);
        check.due("cell(5) behind LATE", x.cell(5), 3);
        x.write('t');
        check.due("paper() of less", x.paper(), 220);
        check.due("cell(3)", x.cell(3), 1);
        check.due("cell(4)", x.cell(4), PaperTrellis.UNKNOWN);
        check.due("boy(0, 0)", x.boy(0, 0), PaperTrellis.UNKNOWN);
    }

    private static void paperClears() {
        PaperTrellis x = Check.of("W220lltlPa0");
        x.step(0, 1);
        x.cut(2);
        x.keep(0);
        x.keep(1);
        x.see(1, 1, 1);
        x.seed(77);
        check.due("refused", paperOf(x, "W220l"), PaperTrellis.LATE);
        check.due("ACTS stay behind a refusal", x.about(8), 2);
        check.due("a slot stays behind a refusal", x.goOn(0), 1);
        x.step(0, 0);
        check.due("taken", paperOf(x, "W220lltlPa0"), 221);
        check.due("no ACTS", x.about(8), 0);
        check.due("no undo", x.undo(), PaperTrellis.LATE);
        check.due("slot 0 is gone", x.goOn(0), PaperTrellis.LATE);
        check.due("slot 1 is gone", x.goOn(1), PaperTrellis.LATE);
        check.due("nothing is cut", x.cell(2), 1);
        check.due("all are home", x.about(7), 1);
        check.due("SEEN stays", x.about(9), 1);
        check.due("THE SEED stays", x.seed(0), 77);
    }

    private static int paperOf(PaperTrellis x, String text) {
        Check.write(x, text);
        return x.paper();
    }

    private static void aboutAll() {
        PaperTrellis x = Check.of("W321ltbrtbPa0Pd2");
        x.see(0, 0, 0);
        check.due("step(0, 1)", x.step(0, 1), PaperTrellis.LATE);
        check.due("step(0, 3)", x.step(0, 3), 3);
        int[] due = {3, 2, 1, 2, 18, 36, 8, 2, 1, 1, 16};
        for (int what = 0; what < due.length; what++) {
            check.due("about(" + what + ")", x.about(what), due[what]);
        }
        check.due("about(-1)", x.about(-1), PaperTrellis.BAD);
        check.due("about(11)", x.about(11), PaperTrellis.BAD);
        x.cut(1);
        check.due("THORNS when one is cut", x.about(4), 16);
    }

    private static void cells() {
        PaperTrellis x = Check.of("W230ltbrll");
        for (int cell = 0; cell < 4; cell++) {
            check.due("cell(" + cell + ")", x.cell(cell), cell);
        }
        check.due("cell(5)", x.cell(5), 0);
        check.due("cell(6)", x.cell(6), PaperTrellis.UNKNOWN);
        check.due("cell(-1)", x.cell(-1), PaperTrellis.UNKNOWN);
        check.due("cell(least)", x.cell(Integer.MIN_VALUE), PaperTrellis.UNKNOWN);
        check.due("cell(most)", x.cell(Integer.MAX_VALUE), PaperTrellis.UNKNOWN);
        x.cut(1);
        check.due("a cut cell", x.cell(1), 0);
    }

    private static void besides() {
        PaperTrellis x = Check.of("W231llllll");
        int[][] plain = {{5, 1, 4, 2}, {0, 2, 5, 3}, {1, 3, 0, 4}, {2, 4, 1, 5}, {3, 5, 2, 0}, {4, 0, 3, 1}};
        int[][] straight = {{1, 1, 4, 2}, {0, 0, 5, 3}, {3, 3, 0, 4}, {2, 2, 1, 5}, {5, 5, 2, 0}, {4, 4, 3, 1}};
        for (int cell = 0; cell < 6; cell++) {
            for (int way = 0; way < 4; way++) {
                String of = cell + ", " + way;
                check.due("beside(" + of + ", false)", x.beside(cell, way, false), plain[cell][way]);
                check.due("beside(" + of + ", true)", x.beside(cell, way, true), straight[cell][way]);
            }
        }
        check.due("beside(6, 0)", x.beside(6, 0, false), PaperTrellis.UNKNOWN);
        check.due("beside(-1, 9)", x.beside(-1, 9, false), PaperTrellis.UNKNOWN);
        check.due("beside(0, 4)", x.beside(0, 4, false), PaperTrellis.BAD);
        check.due("beside(0, -1)", x.beside(0, -1, true), PaperTrellis.BAD);
    }

    private static void boys() {
        PaperTrellis x = Check.of("W220lltbPa0Pb1Pa2Pb3");
        int[][] due = {{0, 0, 0, 3, 3, 3}, {1, 1, 1, 3, 3, 15}, {0, 2, 0, 3, 3, 3}, {1, 3, 1, 3, 3, 15}};
        for (int boy = 0; boy < 4; boy++) {
            for (int what = 0; what < 6; what++) {
                check.due("boy(" + boy + ", " + what + ")", x.boy(boy, what), due[boy][what]);
            }
        }
        check.due("boy(4, 0)", x.boy(4, 0), PaperTrellis.UNKNOWN);
        check.due("boy(-1, 9)", x.boy(-1, 9), PaperTrellis.UNKNOWN);
        check.due("boy(0, 6)", x.boy(0, 6), PaperTrellis.BAD);
        check.due("boy(0, -1)", x.boy(0, -1), PaperTrellis.BAD);
        x.step(1, 1);
        x.step(1, 2);
        check.due("CELL", x.boy(1, 0), 2);
        check.due("CELL of its HOME", x.boy(1, 2), 1);
        check.due("WIDTH and 3", x.boy(1, 3), 4);
        check.due("HEIGHT and 3", x.boy(1, 4), 2);
        x.step(0, 0);
        check.due("WIDTH and 3, left", x.boy(0, 3), 2);
    }
}
