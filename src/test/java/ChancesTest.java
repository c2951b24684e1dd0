/** Promises 25 to 28: rests, strays, seed, nights. */
public final class ChancesTest {
    private static final Check check = new Check("ChancesTest");
    private static final int UNKNOWN = PaperTrellis.UNKNOWN, BAD = PaperTrellis.BAD;

    public static void main(String[] args) {
        restsRefused();
        restsOfTwo();
        straysHome();
        straysRefused();
        seeds();
        nightsRefused();
        nightsOfOne();
        nightsTogether();
        check.end();
    }

    private static void restsRefused() {
        PaperTrellis x = Check.of("W220llllPa0Pb0");
        check.due("rests(0, 2, 0)", x.rests(0, 2, 0), UNKNOWN);
        check.due("rests(2, 0, 5)", x.rests(2, 0, 5), UNKNOWN);
        check.due("rests(-1, -1, 0)", x.rests(-1, -1, 0), UNKNOWN);
        check.due("rests(1, 1, 0)", x.rests(1, 1, 0), BAD);
        check.due("rests(0, 1, 2)", x.rests(0, 1, 2), BAD);
        check.due("rests(0, 1, -1)", x.rests(0, 1, -1), BAD);
    }

    private static void restsOfTwo() {
        PaperTrellis x = Check.of("W220llllPa0Pd0");
        // One comes to 1 by left, right, to 2 by up, down; the other to 2 and to 1.
        check.due("where they meet", x.rests(0, 1, 0), 8);
        check.due("the first one", x.rests(0, 1, 1), 2);
        check.due("no ACTS", x.about(8), 0);
        PaperTrellis y = Check.of("W220ltttPa0Pa0");
        check.due("both shut in", y.rests(0, 1, 0), 16);
        check.due("the first one", y.rests(1, 0, 1), 0);
        PaperTrellis z = Check.of("W320rltrltPa0Pd0");
        // Left is a THORN: one stays at its ROSE, and the other comes to it by up or down.
        check.due("to ROSES", z.rests(0, 1, 0), 4);
        check.due("the first one", z.rests(0, 1, 1), 2);
        PaperTrellis s = Check.of("W220lltrPa0Pd1");
        check.due("one is SMALL", s.rests(0, 1, 1), 2);
        check.due("one is SMALL", s.rests(1, 0, 1), 20);
    }

    private static void straysHome() {
        PaperTrellis x = Check.of("W220llllPa0");
        check.due("1 step", x.strays(0, 1, true), 0);
        check.due("1 step", x.strays(0, 1, false), 1);
        check.due("2 steps", x.strays(0, 2, true), 1);
        check.due("2 steps", x.strays(0, 2, false), 4);
        check.due("4 steps", x.strays(0, 4, true), 9);
        check.due("4 steps", x.strays(0, 4, false), 64);
        check.due("5 steps", x.strays(0, 5, true), 0);
        PaperTrellis y = Check.of("W220ltttPa0");
        check.due("shut in", y.strays(0, 5, true), 1);
        check.due("shut in", y.strays(0, 5, false), 1);
        PaperTrellis z = Check.of("W320lltlttPa0");
        check.due("stays by left alone", z.strays(0, 1, true), 1);
        check.due("stays by left alone", z.strays(0, 1, false), 4);
        PaperTrellis s = Check.of("W220blllPa2");
        check.due("a SHY one at its BIRD", s.strays(0, 1, true), 0);
        check.due("can not be there again", s.strays(0, 2, true), 0);
    }

    private static void straysRefused() {
        PaperTrellis x = Check.of("W220llllPa0");
        check.due("strays(1, 0)", x.strays(1, 0, true), UNKNOWN);
        check.due("strays(-1, 1)", x.strays(-1, 1, true), UNKNOWN);
        check.due("strays(0, 0)", x.strays(0, 0, true), BAD);
        check.due("strays(0, 6)", x.strays(0, 6, false), BAD);
        check.due("strays(0, -1)", x.strays(0, -1, false), BAD);
    }

    private static void seeds() {
        PaperTrellis x = new PaperTrellis();
        check.due("at first", x.seed(Long.MIN_VALUE), 0);
        check.due("the least", x.seed(-1), Long.MIN_VALUE);
        check.due("-1", x.seed(0), -1);
        check.due("nights(1)", x.nights(1), 0);
        check.due("once on", x.seed(1), 1442695040888963407L);
        x.nights(2);
        check.due("twice on", x.seed(0), on(on(1)));
    }

    private static void nightsRefused() {
        PaperTrellis x = new PaperTrellis();
        x.seed(8);
        check.due("nights(0)", x.nights(0), BAD);
        check.due("nights(31)", x.nights(31), BAD);
        check.due("nights(-1)", x.nights(-1), BAD);
        check.due("THE SEED stays", x.seed(8), 8);
        check.due("nights(30)", x.nights(30), 0);
    }

    /** Each lot is told by a seed that brings it at once. */
    private static void nightsOfOne() {
        for (int lot = 0; lot < 40; lot++) {
            PaperTrellis x = Check.of("W220lltlPa0Pb0");
            x.step(1, 1);
            x.seed(seedOf(lot));
            int out = 1;
            if (lot == 0 || lot == 1) {
                out = 2;
            } else if (lot == 4) {
                out = 0;
            } else if (lot >= 20 && lot < 24 && lot - 20 != 3) {
                out = 0;
            }
            check.due("lot " + lot, x.nights(1), out);
            check.due("nothing changes", x.about(7) * 10 + x.about(8), 11);
        }
    }

    /** Three lots of which none is a boy or a cell: two boys are out, each time. */
    private static void nightsTogether() {
        long seed = 0;
        while (lotOf(seed) < 24 || lotOf(on(seed)) < 24 || lotOf(on(on(seed))) < 24) {
            seed++;
        }
        PaperTrellis x = Check.of("W220lltlPa0Pb0Pb3");
        x.step(1, 1);
        x.step(2, 1);
        x.seed(seed);
        check.due("nights(3)", x.nights(3), 6);
        check.due("THE SEED, three times on", x.seed(0), on(on(on(seed))));
    }

    private static long on(long seed) {
        return seed * 6364136223846793005L + 1442695040888963407L;
    }

    private static long lotOf(long seed) {
        return (on(seed) >>> 33) % 40;
    }

    private static long seedOf(int lot) {
        long seed = 0;
        while (lotOf(seed) != lot) {
            seed++;
        }
        return seed;
    }
}
