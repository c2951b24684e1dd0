/** Promises 22 to 24: see, unsee, stands. */
public final class StandsTest {
    private static final Check check = new Check("StandsTest");
    private static final int BAD = PaperTrellis.BAD, FULL = PaperTrellis.FULL;

    public static void main(String[] args) {
        sees();
        standsByKind();
        standsOff();
        check.end();
    }

    private static void sees() {
        PaperTrellis x = new PaperTrellis();
        int[][] bad = {{5, 0, 0}, {-5, 0, 0}, {0, 5, 0}, {0, -5, 0}, {0, 0, 4}, {0, 0, -1},
            {Integer.MIN_VALUE, 0, 0}, {0, Integer.MAX_VALUE, 0}};
        for (int[] told : bad) {
            check.due("see " + told[0] + " " + told[1] + " " + told[2], x.see(told[0], told[1], told[2]), BAD);
        }
        check.due("nothing is SEEN", x.about(9), 0);
        check.due("unsee()", x.unsee(), 0);
        int[][] good = {{4, 4, 0}, {-4, -4, 0}, {4, -4, 3}, {-4, 4, 1}, {0, 0, 2}, {0, 0, 2}};
        for (int i = 0; i < good.length; i++) {
            check.due("see the " + i + "th", x.see(good[i][0], good[i][1], good[i][2]), i + 1);
        }
        check.due("see a 7th", x.see(0, 0, 0), FULL);
        check.due("BAD is told ahead of FULL", x.see(0, 0, 4), BAD);
        check.due("about(9)", x.about(9), 6);
        check.due("unsee()", x.unsee(), 6);
        check.due("stands() when nothing is SEEN", x.stands(), 15);
        check.due("see()", x.see(0, 0, 0), 1);
    }

    private static void standsByKind() {
        PaperTrellis x = Check.of("W230ltbrlt");
        int[] due = {17, 34, 4, 8};
        for (int kind = 0; kind < 4; kind++) {
            x.see(0, 0, kind);
            check.due("stands at kind " + kind, x.stands(), due[kind]);
            x.unsee();
        }
        x.see(0, 0, 1);
        x.cut(1);
        check.due("when one is cut", x.stands(), 32);
        x.see(0, 0, 0);
        check.due("at none", x.stands(), 0);
    }

    private static void standsOff() {
        PaperTrellis x = Check.of("W321lllllr");
        int[][] seen = {{1, 0}, {-1, 0}, {0, 1}, {0, -1}, {3, 0}, {-3, 0}, {4, 0}, {-4, 0}, {1, 1}, {-1, -1},
            {4, -4}, {-4, 3}, {0, 4}, {0, -3}};
        int[] due = {16, 1, 4, 4, 4, 4, 2, 8, 2, 8, 2, 1, 32, 4};
        for (int i = 0; i < seen.length; i++) {
            x.see(seen[i][0], seen[i][1], 3);
            check.due("a ROSE at " + seen[i][0] + ", " + seen[i][1], x.stands(), due[i]);
            x.unsee();
        }
        PaperTrellis y = Check.of("W320ltrtttPa0");
        y.see(2, 0, 3);
        check.due("through a THORN", y.stands(), 1);
        y.see(1, 0, 1);
        check.due("two things SEEN", y.stands(), 1);
        y.see(0, 1, 0);
        check.due("and a third that is not so", y.stands(), 0);
    }
}
