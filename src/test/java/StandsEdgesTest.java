/** SEEN and STANDS (promises 22 to 24) at the edges. */
public final class StandsEdgesTest {
    private static final Check check = new Check("StandsEdgesTest");
    private static final int BAD = PaperTrellis.BAD, FULL = PaperTrellis.FULL;
    private static final int LEAST = Integer.MIN_VALUE, MOST = Integer.MAX_VALUE;

    public static void main(String[] args) {
        xIsFourAtMost();
        yIsFourAtMost();
        kindsAreNoughtToThree();
        sixAreSeenAtMost();
        badIsToldAheadOfFull();
        nothingIsUnseen();
        standsWhereNothingIsSeen();
        standsWhereAllThatIsSeenIsSo();
        standsAtThorns();
        standsByEachStep();
        standsAsAPlainOne();
        standsBeyondTheLastPlaces();
        standsInAnotherPaper();
        check.end();
    }

    /** "x STEPS right (-4 .. 4; below 0 left)" */
    private static void xIsFourAtMost() {
        PaperTrellis x = new PaperTrellis();
        int[] bad = {-5, 5, -6, 6, LEAST, MOST};
        for (int steps : bad) {
            check.due("x of " + steps, x.see(steps, 0, 0), BAD);
        }
        check.due("nothing is SEEN", x.about(9), 0);
        check.due("x of -4", x.see(-4, 0, 0), 1);
        check.due("x of 4", x.see(4, 0, 0), 2);
    }

    /** "y STEPS down (-4 .. 4; below 0 up)" */
    private static void yIsFourAtMost() {
        PaperTrellis x = new PaperTrellis();
        int[] bad = {-5, 5, -6, 6, LEAST, MOST};
        for (int steps : bad) {
            check.due("y of " + steps, x.see(0, steps, 0), BAD);
        }
        check.due("nothing is SEEN", x.about(9), 0);
        check.due("y of -4", x.see(0, -4, 0), 1);
        check.due("y of 4", x.see(0, 4, 0), 2);
    }

    /** "a kind (0 LEAF, 1 THORN, 2 BIRD, 3 ROSE)" */
    private static void kindsAreNoughtToThree() {
        PaperTrellis x = Check.of("W220ltbr");
        int[] bad = {-1, 4, -2, 5, LEAST, MOST, PaperTrellis.NONE};
        for (int kind : bad) {
            check.due("a kind of " + kind, x.see(0, 0, kind), BAD);
        }
        check.due("nothing is SEEN", x.about(9), 0);
        for (int kind = 0; kind < 4; kind++) {
            check.due("a kind of " + kind, x.see(0, 0, kind), 1);
            check.due("STANDS there", x.stands(), 1 << kind);
            check.due("unsee", x.unsee(), 1);
        }
    }

    /** "6 such at most, none at first", promise 22: "FULL: 6" */
    private static void sixAreSeenAtMost() {
        PaperTrellis x = Check.of("W220rlll");
        check.due("none at first", x.about(9), 0);
        for (int i = 1; i <= 6; i++) {
            check.due("the " + i + "th", x.see(0, 0, 0), i);
        }
        check.due("STANDS", x.stands(), 14);
        check.due("the 7th", x.see(0, 0, 3), FULL);
        check.due("the 7th, as those that are there", x.see(0, 0, 0), FULL);
        check.due("there are 6", x.about(9), 6);
        check.due("STANDS as ahead of it", x.stands(), 14);
        check.due("unsee", x.unsee(), 6);
        check.due("there is room again", x.see(0, 0, 3), 1);
        check.due("STANDS", x.stands(), 1);
    }

    /** "Of several what is told first." */
    private static void badIsToldAheadOfFull() {
        PaperTrellis x = new PaperTrellis();
        for (int i = 0; i < 6; i++) {
            x.see(0, 0, 0);
        }
        check.due("x, when it is full", x.see(5, 0, 0), BAD);
        check.due("y, when it is full", x.see(0, -5, 0), BAD);
        check.due("kind, when it is full", x.see(0, 0, 4), BAD);
        check.due("all, when it is full", x.see(-5, 5, -1), BAD);
        check.due("there are 6", x.about(9), 6);
    }

    /** Promise 23: "Nothing is SEEN: how much there was." */
    private static void nothingIsUnseen() {
        PaperTrellis x = Check.of("W220rlll");
        check.due("at first", x.unsee(), 0);
        for (int many = 1; many <= 6; many++) {
            for (int i = 0; i < many; i++) {
                x.see(0, 0, 3);
            }
            check.due("there were " + many, x.unsee(), many);
            check.due("there are none", x.about(9), 0);
            check.due("all CELLS", x.stands(), 15);
        }
        check.due("again", x.unsee(), 0);
    }

    private static void standsWhereNothingIsSeen() {
        for (int w = 2; w <= 5; w++) {
            for (int h = 2; h <= 4; h++) {
                check.due("all CELLS", Check.of("W" + w + h + "0" + "t".repeat(w * h)).stands(), (1 << w * h) - 1);
            }
        }
    }

    /** "so that all that is SEEN is so": the first one and the sixth one count alike. */
    private static void standsWhereAllThatIsSeenIsSo() {
        PaperTrellis x = Check.of("W320ltbrll");
        for (int at = 0; at < 6; at++) {
            for (int i = 0; i < 6; i++) {
                x.see(i == at ? 1 : 0, 0, i == at ? 1 : 0);
            }
            check.due("one of six is a THORN to the right", x.stands(), 1);
            x.unsee();
        }
        x.see(0, 0, 0);
        x.see(0, 0, 3);
        check.due("both can not be", x.stands(), 0);
    }

    /** "CELLS (bits; THORNS, too) at which it may stand" */
    private static void standsAtThorns() {
        PaperTrellis x = Check.of("W230tbtrtl");
        x.see(0, 0, 1);
        check.due("at THORNS", x.stands(), 1 + 4 + 16);
        x.cut(2);
        check.due("at those that are left", x.stands(), 1 + 16);
        x.undo();
        check.due("and again", x.stands(), 1 + 4 + 16);
    }

    /** One rose in a paper without a drop: it is seen from where one comes to it by so many steps. */
    private static void standsByEachStep() {
        for (int w = 2; w <= 5; w++) {
            for (int h = 2; h <= 4; h++) {
                PaperTrellis x = Check.of("W" + w + h + "0r" + "l".repeat(w * h - 1));
                for (int right = -4; right <= 4; right++) {
                    for (int down = -4; down <= 4; down++) {
                        x.see(right, down, 3);
                        int cell = Math.floorMod(-down, h) * w + Math.floorMod(-right, w);
                        check.due("a ROSE " + right + ", " + down + " in " + w + ", " + h, x.stands(), 1 << cell);
                        x.unsee();
                    }
                }
            }
        }
    }

    /** "from where a PLAIN one stands": over the JOIN the ROW is d more, each time */
    private static void standsAsAPlainOne() {
        for (int drop = 0; drop < 4; drop++) {
            PaperTrellis x = Check.of("W24" + drop + "rlllllll");
            for (int right = -4; right <= 4; right++) {
                for (int down = -4; down <= 4; down += 2) {
                    x.see(right, down, 3);
                    int column = Math.floorMod(-right, 2);
                    int joins = Math.floorDiv(column + right, 2);
                    int row = Math.floorMod(-down - joins * drop, 4);
                    check.due("by a DROP of " + drop + ", " + right + ", " + down, x.stands(), 1 << row * 2 + column);
                    x.unsee();
                }
            }
        }
    }

    /** "whatever is there": STEPS go through THORNS, and where a BOY is is nothing to it */
    private static void standsBeyondTheLastPlaces() {
        PaperTrellis x = Check.of("W220ltttPa0");
        x.see(4, 4, 0);
        check.due("through THORNS", x.stands(), 1);
        x.unsee();
        PaperTrellis y = Check.of("W220rlllPa0");
        Check.go(y, 0, "1".repeat(7));
        y.see(-4, -4, 3);
        check.due("wherever a BOY is", y.stands(), 1);
    }

    private static void standsInAnotherPaper() {
        PaperTrellis x = Check.of("W220rlll");
        x.see(1, 0, 3);
        check.due("in the one", x.stands(), 2);
        Check.write(x, "W540" + "l".repeat(19) + "r");
        x.paper();
        check.due("in the other", x.stands(), 1 << 18);
        Check.write(x, "W220llll");
        x.paper();
        check.due("nowhere in a third", x.stands(), 0);
    }
}
