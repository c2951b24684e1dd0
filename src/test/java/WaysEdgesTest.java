/** FAR, REACH, AGAIN, ALIKE, CALLS, MATCH (promises 14 to 19) at the edges. */
public final class WaysEdgesTest {
    private static final Check check = new Check("WaysEdgesTest");
    private static final int UNKNOWN = PaperTrellis.UNKNOWN, BAD = PaperTrellis.BAD, NONE = PaperTrellis.NONE;
    private static final int LEAST = Integer.MIN_VALUE, MOST = Integer.MAX_VALUE;

    public static void main(String[] args) {
        farIsUnknown();
        farIsNoughtAtHome();
        farIsNoneWhereItCanNotBe();
        farIsByPlaces();
        farIsNotByPlacesBeyondTheLast();
        farFromACorner();
        reachIsUnknownThenBad();
        reachInNoStep();
        reachInNineSteps();
        reachInEachStep();
        reachOfOneShutIn();
        reachEndsAtTheLastPlaces();
        againIsUnknownThenBad();
        againInTwoToTwentySteps();
        againSetsTheLastPlacesAside();
        againIsNoneOnTheWay();
        againIsNoneAtItsOwn();
        alikeIsUnknown();
        alikeByAllFive();
        alikeByThePlainWays();
        alikeWhereAllAreAndNoneIs();
        callsAreBad();
        callsWhereAllAreHome();
        callsForThoseWhoAreOut();
        callsOfLikeOnesTheLeast();
        callsFewestAheadOfLeast();
        callsByThree();
        callsWhereNoneCanBe();
        matchIsBad();
        matchOfLikeOnesTheLeast();
        matchByTheLastDrop();
        matchWhereAllAreUnlike();
        matchIsNotByTheDropThatIs();
        check.end();
    }

    private static final int[] NO_BOY = {-1, 2, LEAST, MOST};

    /** Promise 14: "UNKNOWN" */
    private static void farIsUnknown() {
        PaperTrellis x = Check.of("W220llllPa0Pb0");
        for (int boy : NO_BOY) {
            check.due("far(" + boy + ")", x.far(boy), UNKNOWN);
        }
        check.due("the last one", x.far(1), 0);
    }

    /** "FAR for a BOY: the fewest STEPS by which it is HOME" */
    private static void farIsNoughtAtHome() {
        for (int kind = 0; kind < 4; kind++) {
            PaperTrellis x = Check.of("W220btttPa" + kind);
            check.due("at HOME, shut in, KIND " + kind, x.far(0), 0);
        }
    }

    /** "(by PLACES where it can be); NONE" */
    private static void farIsNoneWhereItCanNotBe() {
        PaperTrellis x = Check.of("W220blllPa2Pa0Pa1Pa3");
        for (int boy = 0; boy < 4; boy++) {
            Check.go(x, boy, "1");
            check.due("from beside a BIRD that is HOME, " + boy, x.far(boy), boy == 0 ? NONE : 1);
        }
        PaperTrellis y = Check.of("W220blllPa2");
        Check.go(y, 0, "131");
        check.due("and farther off", y.far(0), NONE);
        check.due("called", y.call(0), 1);
        check.due("HOME", y.far(0), 0);
    }

    /** HOME is a PLACE: the like CELL in another WIDTH is so many STEPS off. */
    private static void farIsByPlaces() {
        for (int w = 2; w <= 5; w++) {
            PaperTrellis x = Check.of(Check.leaves(w, 2, 0) + "Pa0");
            Check.go(x, 0, "1".repeat(w));
            check.due("its CELL", x.boy(0, 0), 0);
            check.due("a WIDTH off", x.far(0), w);
            Check.go(x, 0, "33");
            check.due("and a HEIGHT", x.far(0), w + 2);
        }
        PaperTrellis y = Check.of("W330ltlltllllPa0Pa3");
        Check.go(y, 0, "3311");
        check.due("a PLAIN one round THORNS", y.far(0), 4);
        PaperTrellis z = Check.of("W331lltllllllPb0");
        Check.go(z, 0, "3");
        Check.go(z, 0, "1");
        Check.go(z, 0, "1");
        check.due("over the JOIN, the ROW is 1 more", z.boy(0, 0), 6);
        check.due("back over it", z.far(0), 3);
    }

    /** "WIDTHS, HEIGHTS beyond 3 there are not": by them it would be 13. */
    private static void farIsNotByPlacesBeyondTheLast() {
        PaperTrellis x = Check.of(Check.leaves(2, 4, 1) + "Pd0");
        Check.go(x, 0, "1".repeat(6));
        Check.go(x, 0, "3".repeat(15));
        check.due("WIDTH and 3", x.boy(0, 3), 6);
        check.due("HEIGHT and 3", x.boy(0, 4), 6);
        check.due("FAR", x.far(0), 15);
        PaperTrellis y = Check.of(Check.leaves(2, 4, 1) + "Pe0");
        Check.go(y, 0, "0".repeat(6));
        Check.go(y, 0, "2".repeat(15));
        check.due("FAR, on the other side", y.far(0), 15);
    }

    private static void farFromACorner() {
        PaperTrellis x = Check.of(Check.leaves(5, 4, 0) + "Pa0");
        Check.go(x, 0, "1".repeat(19));
        Check.go(x, 0, "3".repeat(15));
        check.due("the farthest", x.far(0), 34);
        PaperTrellis y = Check.of(Check.leaves(5, 4, 3) + "Pt3");
        Check.go(y, 0, "0".repeat(19));
        Check.go(y, 0, "2".repeat(15));
        check.due("the farthest of a PYM", y.far(0), 34);
    }

    /** Promise 15: "UNKNOWN; BAD: n"; "in n STEPS (0 .. 9)" */
    private static void reachIsUnknownThenBad() {
        PaperTrellis x = Check.of("W220llllPa0Pb0");
        int[] bad = {-1, 10, LEAST, MOST};
        for (int boy : NO_BOY) {
            check.due("reach(" + boy + ", 0)", x.reach(boy, 0), UNKNOWN);
            for (int n : bad) {
                check.due("reach(" + boy + ", " + n + ")", x.reach(boy, n), UNKNOWN);
            }
        }
        for (int n : bad) {
            check.due("reach(1, " + n + ")", x.reach(1, n), BAD);
        }
        check.due("reach(1, 0)", x.reach(1, 0), 2);
        check.due("reach(1, 9)", x.reach(1, 9), 15);
    }

    /** "by n STEPS or fewer": by none it is where it is */
    private static void reachInNoStep() {
        for (int cell = 0; cell < 20; cell++) {
            PaperTrellis x = Check.of(Check.leaves(5, 4, 2) + Check.boy(cell, 0));
            check.due("by no step from " + cell, x.reach(0, 0), 1 << cell);
        }
    }

    /** A way of ten STEPS of which the last can not be gone by nine. */
    private static void reachInNineSteps() {
        PaperTrellis x = Check.of("W540tltllltlltltltltlltlPf2");
        check.due("by 8", x.reach(0, 8), 546232);
        check.due("by 9, one CELL more", x.reach(0, 9), 546232 + (1 << 17));
        check.due("the CELL of the tenth is a LEAF", x.cell(16), 0);
        check.due("and by 9 it is not there", x.reach(0, 9) & 1 << 16, 0);
    }

    private static void reachInEachStep() {
        PaperTrellis x = Check.of(Check.leaves(5, 4, 0) + "Pa0");
        int[] many = {1, 5, 12, 18, 20, 20, 20, 20, 20, 20};
        for (int n = 0; n < many.length; n++) {
            check.due("CELLS by " + n, Integer.bitCount(x.reach(0, n)), many[n]);
        }
        check.due("by 1", x.reach(0, 1), 1 + 2 + 16 + 32 + (1 << 15));
    }

    private static void reachOfOneShutIn() {
        PaperTrellis x = Check.of("W330ltttttlttPa0Pa1Pa2Pa3");
        for (int boy = 0; boy < 4; boy++) {
            check.due("by 0", x.reach(boy, 0), 1);
            check.due("by 1", x.reach(boy, 1), boy == 1 ? 1 + 2 + 4 + 8 + 64 : 65);
            check.due("by 9", x.reach(boy, 9), boy == 1 ? 511 : 65);
        }
        PaperTrellis y = Check.of("W220bbbbPa2");
        check.due("a SHY one among BIRDS is where it is", y.reach(0, 9), 1);
    }

    /** "WIDTHS, HEIGHTS beyond 3 there are not" */
    private static void reachEndsAtTheLastPlaces() {
        int[] steps = {15, 19, 12, 15};
        int[] at = {0, 4, 0, 15};
        for (int way = 0; way < 4; way++) {
            PaperTrellis x = Check.of(Check.leaves(5, 4, 0) + "Pa0");
            Check.go(x, 0, String.valueOf(way).repeat(steps[way]));
            check.due("at the last", x.boy(0, 0), at[way]);
            int due = 1 << at[way];
            for (int other = 0; other < 4; other++) {
                due |= other == way ? 0 : 1 << x.beside(at[way], other, false);
            }
            check.due("not beyond, by " + way, x.reach(0, 1), due);
            check.due("all, by more", x.reach(0, 9), 0xFFFFF);
        }
    }

    /** Promise 16: "UNKNOWN; BAD: way" */
    private static void againIsUnknownThenBad() {
        PaperTrellis x = Check.of("W220llllPa0Pb0");
        int[] bad = {-1, 4, LEAST, MOST};
        for (int boy : NO_BOY) {
            check.due("again(" + boy + ", 0)", x.again(boy, 0), UNKNOWN);
            for (int way : bad) {
                check.due("again(" + boy + ", " + way + ")", x.again(boy, way), UNKNOWN);
            }
        }
        for (int way : bad) {
            check.due("again(1, " + way + ")", x.again(1, way), BAD);
        }
        check.due("again(1, 3)", x.again(1, 3), 2);
    }

    /** "in how many STEPS (1 .. 20) that WAY .. it is at the CELL where it is now first" */
    private static void againInTwoToTwentySteps() {
        for (int w = 2; w <= 5; w++) {
            for (int h = 2; h <= 4; h++) {
                for (int drop = 0; drop < h; drop++) {
                    int rounds = drop == 0 ? 1 : h == 4 && drop == 2 ? 2 : h;
                    for (int cell = 0; cell < w * h; cell += w * h - 1) {
                        String text = Check.leaves(w, h, drop);
                        PaperTrellis x = Check.of(text + Check.boy(cell, 0) + Check.boy(cell, 3));
                        for (int way = 0; way < 4; way++) {
                            String told = text.substring(0, 4) + " at " + cell + " by " + way;
                            check.due("AGAIN, " + told, x.again(0, way), way < 2 ? w * rounds : h);
                            check.due("AGAIN of a PYM, " + told, x.again(1, way), way < 2 ? w : h);
                        }
                    }
                }
            }
        }
    }

    /** "(that there are no WIDTHS, HEIGHTS beyond 3, set aside)" */
    private static void againSetsTheLastPlacesAside() {
        for (int way = 0; way < 4; way++) {
            PaperTrellis x = Check.of(Check.leaves(3, 4, 1) + "Pe0Pe3");
            for (int i = 0; i < 20; i++) {
                x.step(0, way);
                x.step(1, way);
            }
            check.due("the WAY is shut", x.step(0, way), PaperTrellis.LATE);
            check.due("AGAIN by " + way, x.again(0, way), way < 2 ? 12 : 4);
            check.due("AGAIN of a PYM by " + way, x.again(1, way), way < 2 ? 3 : 4);
        }
    }

    /** "NONE: it can not be at one on that way": the first, and the last one ahead of its own */
    private static void againIsNoneOnTheWay() {
        for (int at = 1; at < 20; at++) {
            StringBuilder text = new StringBuilder(Check.leaves(5, 4, 1));
            // With a drop of 1 the way right from 0 goes through the cells as they come.
            text.setCharAt(4 + at, 't');
            PaperTrellis x = Check.of(text + "Pa0Pa1Pa2Pa3");
            boolean inRow = at < 5;
            check.due("a THORN at " + at, x.again(0, 1), NONE);
            check.due("a THORN at " + at + ", left", x.again(0, 0), NONE);
            check.due("a SMALL one", x.again(1, 1), 20);
            check.due("a SHY one", x.again(2, 1), NONE);
            check.due("a PYM", x.again(3, 1), inRow ? NONE : 5);
            check.due("down", x.again(0, 3), at % 5 == 0 ? NONE : 4);
            text.setCharAt(4 + at, 'b');
            PaperTrellis y = Check.of(text + "Pa0Pa1Pa2Pa3");
            check.due("a BIRD at " + at, y.again(0, 1), 20);
            check.due("a BIRD, SHY", y.again(2, 1), NONE);
            check.due("a BIRD, a PYM", y.again(3, 1), 5);
            check.due("a BIRD, SHY, up", y.again(2, 2), at % 5 == 0 ? NONE : 4);
        }
    }

    /** "(or at its own)": a SHY one that is HOME at a BIRD */
    private static void againIsNoneAtItsOwn() {
        PaperTrellis x = Check.of("W220blllPa2Pa0Pb2");
        for (int way = 0; way < 4; way++) {
            check.due("at its own, by " + way, x.again(0, way), NONE);
            check.due("a PLAIN one, by " + way, x.again(1, way), 2);
            check.due("a SHY one beside it, by " + way, x.again(2, way), way < 2 ? NONE : 2);
        }
    }

    /** Promise 17: "UNKNOWN" */
    private static void alikeIsUnknown() {
        PaperTrellis x = Check.of("W320llllll");
        int[] unknown = {-1, 6, LEAST, MOST};
        for (int cell : unknown) {
            check.due("alike(" + cell + ")", x.alike(cell), UNKNOWN);
        }
        check.due("alike(5)", x.alike(5), 63);
    }

    /** "the kind, and the kinds of the four beside it": each of the five alone makes a CELL unlike. */
    private static void alikeByAllFive() {
        int centre = 7;
        int[] others = {7, 6, 8, 2, 12};
        String[] kinds = {"t", "b", "r"};
        for (int other : others) {
            for (String kind : kinds) {
                StringBuilder text = new StringBuilder(Check.leaves(5, 4, 0));
                text.setCharAt(4 + other, kind.charAt(0));
                PaperTrellis x = Check.of(text.toString());
                check.due("only itself, by " + other, x.alike(centre), 1 << centre);
                int plainOnes = 0xFFFFF;
                for (int way = 0; way < 4; way++) {
                    plainOnes &= ~(1 << x.beside(other, way, false));
                }
                check.due("LEAVES among LEAVES", x.alike(19 - other % 2), plainOnes & ~(1 << other));
            }
        }
    }

    /** "(by WAYS of a PLAIN one)" */
    private static void alikeByThePlainWays() {
        PaperTrellis x = Check.of("W331rllllllll");
        check.due("right over the JOIN comes the ROSE: from 8", x.alike(8), 1 << 8);
        check.due("and not from 2, which has one below no less", x.alike(2), 1 << 2 | 1 << 4 | 1 << 5 | 1 << 7);
        check.due("straight on it were 2", x.beside(2, 1, true), 0);
    }

    private static void alikeWhereAllAreAndNoneIs() {
        PaperTrellis x = Check.of("W540" + "r".repeat(20));
        check.due("all", x.alike(19), 0xFFFFF);
        PaperTrellis y = Check.of("W220ltbr");
        for (int cell = 0; cell < 4; cell++) {
            check.due("itself alone", y.alike(cell), 1 << cell);
        }
        check.due("cut", y.cut(1), 0);
        for (int cell = 0; cell < 4; cell++) {
            check.due("itself alone still", y.alike(cell), 1 << cell);
        }
        PaperTrellis z = Check.of("W220tlll");
        check.due("a THORN", z.alike(3), 8);
        z.cut(0);
        check.due("when it is cut all are alike", z.alike(3), 15);
        z.undo();
        check.due("and when that is undone not", z.alike(3), 8);
    }

    /** Promise 18: "which (what = 0: bits), how many (1). BAD." */
    private static void callsAreBad() {
        PaperTrellis x = Check.of("W220llllPa0");
        int[] bad = {-1, 2, LEAST, MOST};
        for (int what : bad) {
            check.due("calls(" + what + ")", x.calls(what), BAD);
        }
    }

    private static void callsWhereAllAreHome() {
        PaperTrellis x = Check.of(Check.leaves(5, 4, 0) + "Pa0Pc0Pm0Pt3Pj2");
        check.due("which", x.calls(0), 0);
        check.due("how many", x.calls(1), 0);
        PaperTrellis y = Check.of("W220tttt");
        check.due("no BOYS, which", y.calls(0), 0);
        check.due("no BOYS, how many", y.calls(1), 0);
    }

    /** "each BOY that is not HOME HEARS": the like CELL of HOME in another WIDTH is not HOME */
    private static void callsForThoseWhoAreOut() {
        PaperTrellis x = Check.of(Check.leaves(5, 4, 0) + "Pt0Pa0");
        Check.go(x, 0, "11111");
        check.due("at its CELL, not HOME", x.boy(0, 0), 19);
        check.due("the least that it hears is 4, below it", x.calls(0), 1 << 4);
        check.due("one", x.calls(1), 1);
        x.call(4);
        check.due("none", x.calls(1), 0);
        Check.go(x, 1, "1");
        check.due("the last one alone", x.calls(0), 1);
    }

    /** "of like ones the least" */
    private static void callsOfLikeOnesTheLeast() {
        PaperTrellis x = Check.of(Check.leaves(5, 4, 0) + "Pg0");
        Check.go(x, 0, "1");
        check.due("at 7: of 2, 6, 7, 8, 12", x.calls(0), 1 << 2);
        Check.go(x, 0, "3");
        check.due("at 12: of 7, 11, 12, 13, 17", x.calls(0), 1 << 7);
        Check.go(x, 0, "3");
        check.due("at 17: of 2, 12, 16, 17, 18", x.calls(0), 1 << 2);
        PaperTrellis y = Check.of(Check.leaves(5, 4, 0) + "Pg0Pi0");
        Check.go(y, 0, "1");
        Check.go(y, 1, "3");
        check.due("at 7 and at 13: 8 is less than 12", y.calls(0), 1 << 8);
    }

    /** "the fewest CELLS" is ahead of the least: two bits of low CELLS are less than one of a high CELL. */
    private static void callsFewestAheadOfLeast() {
        PaperTrellis x = Check.of(Check.leaves(5, 4, 0) + "Pm0Po0");
        Check.go(x, 0, "3");
        Check.go(x, 1, "3");
        check.due("at 17 and at 19: 18 alone is heard by both", x.calls(0), 1 << 18);
        check.due("one", x.calls(1), 1);
    }

    /** At 0, 7 and 14: no two of them hear one call; then two and two, and one and two. */
    private static void callsByThree() {
        PaperTrellis x = Check.of(Check.leaves(5, 4, 0) + "Pb0Pg0Pn0");
        outTo(x, new String[] {"0", "1", "1"}, new int[] {0, 7, 14});
        check.due("0 for 0, 2 for 7, 9 for 14", x.calls(0), 1 | 1 << 2 | 1 << 9);
        check.due("three", x.calls(1), 3);
        PaperTrellis y = Check.of(Check.leaves(5, 4, 0) + "Pb0Pd0Pk0Pm0");
        outTo(y, new String[] {"0", "0", "1", "1"}, new int[] {0, 2, 11, 13});
        check.due("1 for 0 and 2, 12 for 11 and 13", y.calls(0), 1 << 1 | 1 << 12);
        check.due("two", y.calls(1), 2);
        PaperTrellis z = Check.of(Check.leaves(5, 4, 0) + "Pb0Ph0Po0");
        outTo(z, new String[] {"0", "1", "3200"}, new int[] {0, 8, 12});
        check.due("0 for 0, 7 for 8 and 12", z.calls(0), 1 | 1 << 7);
    }

    private static void outTo(PaperTrellis x, String[] ways, int[] cells) {
        for (int boy = 0; boy < ways.length; boy++) {
            Check.go(x, boy, ways[boy]);
            check.due("boy " + boy + " is at", x.boy(boy, 0), cells[boy]);
        }
    }

    /** "CALLED": who HEARS is told with "where it can be, set aside" */
    private static void callsWhereNoneCanBe() {
        PaperTrellis x = Check.of("W330tltttltttPb1");
        Check.go(x, 0, "1");
        check.due("at a THORN, 0 is beside", x.calls(0), 1);
        Check.go(x, 0, "33");
        check.due("at 8: 2 is below", x.calls(0), 4);
    }

    /** Promise 19: "which (what = 0), how many (1). BAD." */
    private static void matchIsBad() {
        PaperTrellis x = Check.of("W220llllPa0");
        int[] bad = {-1, 2, LEAST, MOST};
        for (int what : bad) {
            check.due("match(" + what + ")", x.match(what), BAD);
        }
    }

    /** "of like ones the least" */
    private static void matchOfLikeOnesTheLeast() {
        PaperTrellis x = Check.of("W240lrrllrrl");
        check.due("lasts r l r l, firsts l r l r: by 1 and by 3", x.match(0), 1);
        check.due("none is unlike", x.match(1), 0);
        PaperTrellis y = Check.of("W240rrllrrll");
        check.due("by 0 and by 2", y.match(0), 0);
        check.due("none is unlike", y.match(1), 0);
    }

    private static void matchByTheLastDrop() {
        for (int h = 2; h <= 4; h++) {
            StringBuilder text = new StringBuilder("W2" + h + "0");
            for (int row = 0; row < h; row++) {
                text.append(row == h - 1 ? 'r' : 'l').append(row == 0 ? 'r' : 'l');
            }
            PaperTrellis x = Check.of(text.toString());
            check.due("the last DROP of " + h, x.match(0), h - 1);
            check.due("none is unlike", x.match(1), 0);
        }
    }

    private static void matchWhereAllAreUnlike() {
        for (int h = 2; h <= 4; h++) {
            PaperTrellis x = Check.of("W2" + h + "1" + "bt".repeat(h));
            check.due("the least DROP", x.match(0), 0);
            check.due("all ROWS are unlike", x.match(1), h);
            x.cut(1);
            check.due("a LEAF is no BIRD either", x.match(1), h);
        }
        PaperTrellis y = Check.of("W220lttl");
        check.due("by a DROP of 1", y.match(0), 1);
        check.due("none is unlike", y.match(1), 0);
        y.cut(1);
        check.due("one is unlike by each", y.match(1), 1);
        check.due("the least", y.match(0), 0);
        y.cut(2);
        check.due("LEAVES alone", y.match(1), 0);
    }

    /** What is best is asked of all DROPS, whichever is printed. */
    private static void matchIsNotByTheDropThatIs() {
        for (int drop = 0; drop < 3; drop++) {
            PaperTrellis x = Check.of("W23" + drop + "rbbttr");
            check.due("lasts b t r, firsts r b t", x.match(0), 1);
            check.due("none is unlike", x.match(1), 0);
        }
    }
}
