/** Promises 14 to 21: far, reach, again, alike, calls, match, judge, share. */
public final class WaysTest {
    private static final Check check = new Check("WaysTest");
    private static final int UNKNOWN = PaperTrellis.UNKNOWN, BAD = PaperTrellis.BAD, NONE = PaperTrellis.NONE;

    public static void main(String[] args) {
        fars();
        farRoundThorns();
        reaches();
        reachAtTheEdge();
        agains();
        alikes();
        callings();
        matches();
        judged();
        judgedChangesNothing();
        shares();
        check.end();
    }

    private static void fars() {
        PaperTrellis x = Check.of("W220llllPa0Pa3");
        check.due("at HOME", x.far(0), 0);
        for (int i = 1; i <= 7; i++) {
            x.step(0, 1);
            check.due("so far right", x.far(0), i);
        }
        x.step(0, 3);
        check.due("and down", x.far(0), 8);
        check.due("far(2)", x.far(2), UNKNOWN);
        check.due("far(-1)", x.far(-1), UNKNOWN);
        PaperTrellis y = Check.of("W220blllPa2Pb2");
        check.due("a SHY one at its BIRD", y.far(0), 0);
        y.step(0, 1);
        check.due("a SHY one can not be at its HOME", y.far(0), NONE);
        y.step(1, 3);
        check.due("another can", y.far(1), 1);
    }

    /** The straight way back is shut only for one who is not small. */
    private static void farRoundThorns() {
        PaperTrellis x = Check.of("W330lltlttlllPb0Pb1");
        int[] ways = {0, 3, 3, 1};
        for (int boy = 0; boy < 2; boy++) {
            for (int way : ways) {
                x.step(boy, way);
            }
        }
        check.due("both are at 7", x.boy(0, 0) * 10 + x.boy(1, 0), 77);
        check.due("a PLAIN one goes round", x.far(0), 4);
        check.due("a SMALL one goes through", x.far(1), 2);
        check.due("cut(4)", x.cut(4), 2);
        check.due("a PLAIN one goes where it is cut", x.far(0), 2);
        PaperTrellis y = Check.of("W220ltttPa0");
        check.due("shut in by THORNS, at HOME", y.far(0), 0);
    }

    private static void reaches() {
        PaperTrellis x = Check.of("W330lllllllllPe0Pe3");
        check.due("reach(0, 0)", x.reach(0, 0), 16);
        check.due("reach(0, 1)", x.reach(0, 1), 16 + 8 + 32 + 2 + 128);
        check.due("reach(0, 2)", x.reach(0, 2), 511);
        check.due("reach(0, 9)", x.reach(0, 9), 511);
        check.due("reach(0, 10)", x.reach(0, 10), BAD);
        check.due("reach(0, -1)", x.reach(0, -1), BAD);
        check.due("reach(2, -1)", x.reach(2, -1), UNKNOWN);
        check.due("reach(-1, 0)", x.reach(-1, 0), UNKNOWN);
        PaperTrellis y = Check.of("W220bttlPa2Pd0Pd1");
        check.due("a SHY one at its BIRD, that is shut in", y.reach(0, 9), 1);
        check.due("a PLAIN one shut in", y.reach(1, 9), 8);
        check.due("a SMALL one", y.reach(2, 1), 8 + 4 + 2);
        PaperTrellis z = Check.of("W231ltttltPa0Pa3");
        check.due("up over the edge", z.reach(0, 1), 17);
        check.due("no way on from there", z.reach(1, 9), 17);
        PaperTrellis j = Check.of("W221lttlPa0Pa3");
        check.due("by a drop", j.reach(0, 1), 9);
        check.due("by no drop", j.reach(1, 9), 1);
    }

    private static void reachAtTheEdge() {
        PaperTrellis x = Check.of("W520llllllllllPa0");
        for (int i = 0; i < 15; i++) {
            x.step(0, 0);
        }
        check.due("WIDTH -3", x.boy(0, 3), 0);
        check.due("CELL 0", x.boy(0, 0), 0);
        check.due("nothing is left of there", x.reach(0, 1), 1 + 2 + 32);
        check.due("AGAIN sets that aside", x.again(0, 0), 5);
    }

    private static void agains() {
        PaperTrellis x = Check.of("W543llllllllllllllllllllPa0Pa3");
        int[] plain = {20, 20, 4, 4};
        int[] straight = {5, 5, 4, 4};
        for (int way = 0; way < 4; way++) {
            check.due("again(0, " + way + ")", x.again(0, way), plain[way]);
            check.due("again(1, " + way + ")", x.again(1, way), straight[way]);
        }
        check.due("again(2, 9)", x.again(2, 9), UNKNOWN);
        check.due("again(0, 4)", x.again(0, 4), BAD);
        check.due("again(0, -1)", x.again(0, -1), BAD);
        PaperTrellis y = Check.of("W240lbllltllPa0Pa1Pa2Pc2");
        check.due("a BIRD, for a PLAIN one", y.again(0, 1), 2);
        check.due("a BIRD, for a SHY one", y.again(2, 1), NONE);
        check.due("down, no THORN there", y.again(0, 3), 4);
        PaperTrellis z = Check.of("W240ltblllllPa0Pa1Pc2");
        check.due("a THORN, for a PLAIN one", z.again(0, 0), NONE);
        check.due("a THORN, for a SMALL one", z.again(1, 0), 2);
        check.due("at its own BIRD", z.again(2, 1), NONE);
        check.due("cut(1)", z.cut(1), 0);
        check.due("a THORN that is cut", z.again(0, 0), 2);
    }

    private static void alikes() {
        PaperTrellis x = Check.of("W240lrlrlrlr");
        check.due("alike(0)", x.alike(0), 0x55);
        check.due("alike(7)", x.alike(7), 0xAA);
        check.due("alike(8)", x.alike(8), UNKNOWN);
        check.due("alike(-1)", x.alike(-1), UNKNOWN);
        PaperTrellis y = Check.of("W330lllltllll");
        check.due("diagonal ones", y.alike(0), 1 + 4 + 64 + 256);
        check.due("left of it, not right of it", y.alike(3), 8);
        check.due("itself", y.alike(4), 16);
        y.cut(4);
        check.due("when it is cut", y.alike(4), 511);
        PaperTrellis z = Check.of("W331lllltllll");
        check.due("by a drop", z.alike(0), 1 + 4 + 64 + 256);
        PaperTrellis j = Check.of("W221lrll");
        check.due("by the WAYS of a PLAIN one", j.alike(0) * 16 + j.alike(2), 16 * 1 + 4);
    }

    private static void callings() {
        PaperTrellis x = Check.of("W430llllllllllllPa0Pg0Pl0");
        check.due("all are HOME", x.calls(0), 0);
        check.due("all are HOME", x.calls(1), 0);
        x.step(0, 1);
        check.due("the least that is heard at 1", x.calls(0), 1);
        check.due("how many", x.calls(1), 1);
        x.step(1, 3);
        check.due("at 1 and at 10", x.calls(0), 4);
        check.due("at 1 and at 10", x.calls(1), 1);
        x.step(2, 2);
        x.step(2, 1);
        check.due("boy 2 is at 4", x.boy(2, 0), 4);
        check.due("with 4, too", x.calls(0), 5);
        check.due("with 4, too", x.calls(1), 2);
        check.due("calls(2)", x.calls(2), BAD);
        check.due("calls(-1)", x.calls(-1), BAD);
        check.due("nothing is changed", x.about(7) * 100 + x.about(8), 4);
        PaperTrellis y = Check.of("W540llllllllllllllllllllPa0Pc0Pk0Pm0Pe3");
        y.step(4, 2);
        check.due("a PYM at 19", y.calls(0), 16);
        PaperTrellis z = Check.of("W430llllllllllllPa0Pc0");
        z.step(1, 3);
        check.due("one who is HOME need not hear", z.calls(0), 4);
    }

    private static void matches() {
        PaperTrellis x = Check.of("W240llllllll");
        check.due("all alike: the least", x.match(0), 0);
        check.due("all alike: none", x.match(1), 0);
        PaperTrellis y = Check.of("W240lbrlbrtt");
        check.due("lasts b l r t, firsts l r b t: by 3", y.match(0), 3);
        check.due("how many", y.match(1), 2);
        PaperTrellis z = Check.of("W230rbbttr");
        check.due("lasts b t r, firsts r b t: by 1", z.match(0), 1);
        check.due("none is unlike", z.match(1), 0);
        z.cut(3);
        check.due("lasts b l r", z.match(1), 1);
        check.due("match(2)", z.match(2), BAD);
        check.due("match(-1)", z.match(-1), BAD);
    }

    private static void judged() {
        PaperTrellis x = Check.of("W220lltlPa0Pb1");
        check.due("a step", x.judge(1, 101), NONE);
        check.due("a step into a THORN", x.judge(1, 103), 0);
        check.due("no such WAY", x.judge(1, 104), 0);
        check.due("no such BOY", x.judge(1, 121), 0);
        check.due("cut, then a step", x.judge(2, 302103), NONE);
        check.due("a step, then cut", x.judge(2, 103302), 0);
        check.due("cut twice", x.judge(2, 302302), 1);
        check.due("no CELL to be cut", x.judge(1, 304), 0);
        check.due("no THORN to be cut", x.judge(1, 300), 0);
        check.due("a call at no CELL", x.judge(1, 204), 0);
        check.due("a call at no CELL", x.judge(1, 299), 0);
        check.due("HOME", x.judge(2, 400401), NONE);
        check.due("no such BOY is HOME", x.judge(1, 402), 0);
        check.due("4, 1, a BOY", x.judge(1, 410), 0);
        check.due("not HOME", x.judge(2, 101400), 1);
        check.due("HOME by a call", x.judge(4, 101201400401L), NONE);
        check.due("a figure of no doing", x.judge(2, 400500), 1);
        check.due("a figure of no doing", x.judge(3, 400400900), 2);
        check.due("noughts ahead", x.judge(2, 101), 0);
        check.due("nothing but noughts", x.judge(4, 0), 0);
        check.due("all four", x.judge(4, 400401400402L), 3);
        check.due("n of 0", x.judge(0, 0), BAD);
        check.due("n of 5", x.judge(5, 0), BAD);
        check.due("n of -1", x.judge(-1, 0), BAD);
        check.due("a row of -1", x.judge(1, -1), BAD);
        check.due("a row of four figures", x.judge(1, 1000), BAD);
        check.due("a row of three figures", x.judge(1, 999), 0);
        check.due("a row of 13 figures", x.judge(4, 1000000000000L), BAD);
        check.due("a row of 12 figures", x.judge(4, 999999999999L), 0);
        check.due("the longest row", x.judge(4, Long.MAX_VALUE), BAD);
        check.due("the least row", x.judge(4, Long.MIN_VALUE), BAD);
    }

    private static void judgedChangesNothing() {
        PaperTrellis x = Check.of("W220lltlPa0Pb1");
        x.judge(4, 302103101400L);
        check.due("no ACTS", x.about(8), 0);
        check.due("all are HOME", x.about(7), 3);
        check.due("nothing is cut", x.about(4), 4);
        PaperTrellis y = Check.of("W543llllllllllllllllllllPa0");
        check.due("a CELL of two figures", y.judge(1, 219), NONE);
        check.due("a CELL of two figures too many", y.judge(1, 220), 0);
    }

    private static void shares() {
        PaperTrellis x = Check.of("W220llllPa0");
        check.due("one has all", x.share(0, true), 4);
        check.due("one has all", x.share(0, false), 1);
        PaperTrellis y = Check.of("W220llllPa0Pb0Pc0");
        check.due("a third of 4", y.share(1, true), 4);
        check.due("a third of 4", y.share(1, false), 3);
        check.due("share(3)", y.share(3, true), UNKNOWN);
        check.due("share(-1)", y.share(-1, false), UNKNOWN);
        PaperTrellis z = Check.of("W520lttlltttttPa0Pe1Pd2");
        check.due("PLAIN has a third of 0, 3, 4", z.share(0, true), 1);
        check.due("PLAIN", z.share(0, false), 1);
        check.due("SHY", z.share(2, true), 1);
        check.due("SMALL has five alone", z.share(1, true), 6);
        check.due("SMALL", z.share(1, false), 1);
        PaperTrellis s = Check.of("W220bttlPa2Pd0");
        check.due("a SHY one at its BIRD", s.share(0, true), 1);
    }
}
