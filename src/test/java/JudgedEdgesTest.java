import java.util.ArrayList;
import java.util.List;

/** JUDGED and SHARE (promises 20 and 21) at the edges. */
public final class JudgedEdgesTest {
    private static final Check check = new Check("JudgedEdgesTest");
    private static final int UNKNOWN = PaperTrellis.UNKNOWN, BAD = PaperTrellis.BAD, NONE = PaperTrellis.NONE;
    private static final int LEAST = Integer.MIN_VALUE, MOST = Integer.MAX_VALUE;

    public static void main(String[] args) {
        thereAreOneToFourDoings();
        theRowIsNoughtOrMore();
        theRowHasThreeFiguresEach();
        everyDoing();
        everyDoingWhereAllIsFull();
        aRowWithFewerFigures();
        eachPlaceCanBeTheFirst();
        eachDoingGoesOnFromTheOneAhead();
        judgedAtTheLastPlaces();
        judgedWhereActsAreFull();
        shareIsUnknown();
        shareOfOne();
        shareOfFiveAtOnePlace();
        shareOfThoseWhoShareNothing();
        shareInLeastTerms();
        shareByAllOrders();
        shareIsByTwoSteps();
        check.end();
    }

    /** "n doings (1 .. 4)", promise 20: "BAD: n" */
    private static void thereAreOneToFourDoings() {
        PaperTrellis x = Check.of("W220llllPa0");
        int[] bad = {0, 5, -1, 6, LEAST, MOST};
        for (int n : bad) {
            check.due("judge(" + n + ", 400)", x.judge(n, 400), BAD);
            check.due("judge(" + n + ", 0)", x.judge(n, 0), BAD);
            check.due("judge(" + n + ", -1)", x.judge(n, -1), BAD);
        }
        long row = 0;
        for (int n = 1; n <= 4; n++) {
            row = row * 1000 + 400;
            check.due(n + " doings", x.judge(n, row), NONE);
        }
    }

    /** "row (0 or more, ..)" */
    private static void theRowIsNoughtOrMore() {
        PaperTrellis x = Check.of("W220llllPa0");
        long[] bad = {-1, -100, -400, Long.MIN_VALUE, Long.MIN_VALUE + 1};
        for (int n = 1; n <= 4; n++) {
            for (long row : bad) {
                check.due("judge(" + n + ", " + row + ")", x.judge(n, row), BAD);
            }
            check.due("judge(" + n + ", 0)", x.judge(n, 0), 0);
        }
    }

    /** "(.., 3 n figures at most)" */
    private static void theRowHasThreeFiguresEach() {
        PaperTrellis x = Check.of("W220llllPa0");
        long beyond = 1;
        for (int n = 1; n <= 4; n++) {
            beyond *= 1000;
            check.due(n + " doings, the greatest row", x.judge(n, beyond - 1), 0);
            check.due(n + " doings, a figure more", x.judge(n, beyond), BAD);
            check.due(n + " doings, a figure more, of which all could be", x.judge(n, beyond + beyond / 1000 * 400), BAD);
            check.due(n + " doings, many more", x.judge(n, Long.MAX_VALUE), BAD);
            check.due(n + " doings, beyond an int", x.judge(n, (1L << 32) * 1000000 + 400), BAD);
        }
        check.due("400 and 2 to the 32nd", x.judge(1, (1L << 32) + 400), BAD);
    }

    private static boolean can(PaperTrellis x, int doing, int wayBits) {
        int second = doing / 10 % 10, third = doing % 10, two = doing % 100;
        boolean isCell = two < x.about(0) * x.about(1);
        switch (doing / 100) {
            case 1: return second < x.about(3) && third < 4 && (wayBits >> 4 * second + third & 1) == 1;
            case 2: return isCell;
            case 3: return isCell && (x.about(4) >> two & 1) == 1;
            case 4: return second == 0 && third < x.about(3) && (x.about(7) >> third & 1) == 1;
            default: return false;
        }
    }

    private static void allDoings(String text, String ways) {
        PaperTrellis looked = Check.of(text);
        Check.go(looked, 0, ways);
        int wayBits = 0;
        for (int boy = 0; boy < looked.about(3); boy++) {
            wayBits |= looked.boy(boy, 5) << 4 * boy;
        }
        for (int from = 0; from < 1000; from += 250) {
            PaperTrellis x = Check.of(text);
            Check.go(x, 0, ways);
            for (int doing = from; doing < from + 250; doing++) {
                int due = can(looked, doing, wayBits) ? NONE : 0;
                check.due("doing " + doing + " in " + text, x.judge(1, doing), due);
            }
        }
    }

    /** "three figures each (1, a BOY, a WAY ..; 2, and two figures of a CELL ..; 3, ..; 4, 0, a BOY ..)" */
    private static void everyDoing() {
        allDoings("W230tltbrlPb0Pd2", "");
        allDoings("W230llllllPa0Pf0", "1");
        allDoings("W220llll", "");
    }

    private static void everyDoingWhereAllIsFull() {
        allDoings("W543" + "l".repeat(19) + "tPa0Pb1Pc2Pd3Pd0", "3");
        allDoings("W540t" + "b".repeat(18) + "tPb0Pc1Pd2Pe3Pf0", "111");
    }

    /** A row that has fewer figures has noughts ahead, and 0 is no doing. */
    private static void aRowWithFewerFigures() {
        PaperTrellis x = Check.of("W220llllPa0");
        check.due("one that can be, told as two", x.judge(2, 400), 0);
        check.due("two that can be, told as four", x.judge(4, 400400), 0);
        check.due("two figures", x.judge(1, 40), 0);
        check.due("one figure", x.judge(1, 4), 0);
    }

    /** "the place of the first that can not be (or is not so)" */
    private static void eachPlaceCanBeTheFirst() {
        PaperTrellis x = Check.of("W220lltlPa0");
        int[] bad = {500, 104, 103, 110, 204, 300, 304, 401, 410, 0, 999};
        for (int n = 1; n <= 4; n++) {
            for (int at = 0; at < n; at++) {
                for (int doing : bad) {
                    long row = 0;
                    for (int i = 0; i < n; i++) {
                        row = row * 1000 + (i == at ? doing : 400);
                    }
                    check.due(doing + " at " + at + " of " + n, x.judge(n, row), at);
                }
            }
        }
        check.due("two that can not be", x.judge(4, 400500400500L), 1);
        check.due("is not so", x.judge(3, 400101400L), 2);
    }

    private static void eachDoingGoesOnFromTheOneAhead() {
        PaperTrellis x = Check.of("W220lltlPa0Pb1");
        check.due("a step into a THORN", x.judge(1, 103), 0);
        check.due("when it is cut", x.judge(2, 302103), NONE);
        check.due("cut but once", x.judge(2, 302302), 1);
        check.due("out, called, HOME", x.judge(4, 101201400101L), NONE);
        check.due("out, not HOME", x.judge(4, 101400201400L), 1);
        check.due("out and back", x.judge(3, 101100400), NONE);
        check.due("out and on: the like CELL is not HOME", x.judge(3, 101101400), 2);
        for (int i = 0; i < 3; i++) {
            check.due("nothing of it stays", x.judge(3, 302103200), NONE);
        }
        check.due("all are HOME", x.about(7), 3);
        check.due("THORNS", x.about(4), 4);
        check.due("ACTS", x.about(8), 0);
    }

    private static void judgedAtTheLastPlaces() {
        PaperTrellis x = Check.of("W220llllPa0");
        Check.go(x, 0, "11111");
        check.due("to the last, and beyond", x.judge(3, 101101101), 2);
        check.due("to the last, and back", x.judge(3, 101101100), NONE);
        Check.go(x, 0, "11");
        check.due("beyond", x.judge(1, 101), 0);
        check.due("called HOME, and then", x.judge(2, 200101), NONE);
    }

    private static void judgedWhereActsAreFull() {
        PaperTrellis x = Check.of("W220lltlPa0");
        x.cut(2);
        Check.go(x, 0, "1010101010101");
        check.due("four doings", x.judge(4, 101100103201L), NONE);
        check.due("ACTS", x.about(8), 14);
        for (int left = 13; left >= 0; left--) {
            check.due("undo to " + left, x.undo(), left);
        }
        check.due("the first one was not forgotten", x.cell(2), 1);
    }

    /** Promise 21: "UNKNOWN" */
    private static void shareIsUnknown() {
        PaperTrellis x = Check.of("W220llllPa0Pb0");
        int[] unknown = {-1, 2, LEAST, MOST};
        for (int boy : unknown) {
            check.due("share(" + boy + ", true)", x.share(boy, true), UNKNOWN);
            check.due("share(" + boy + ", false)", x.share(boy, false), UNKNOWN);
        }
        check.due("the last one", x.share(1, true), 2);
    }

    private static void shared(String what, PaperTrellis x, int boy, int above, int below) {
        check.due(what + ", above", x.share(boy, true), above);
        check.due(what + ", below", x.share(boy, false), below);
    }

    private static void shareOfOne() {
        shared("alone, shut in", Check.of("W220ltttPa0"), 0, 1, 1);
        shared("alone, all that two steps reach", Check.of(Check.leaves(5, 4, 0) + "Pa0"), 0, 12, 1);
        shared("alone, SMALL, in THORNS", Check.of("W540l" + "t".repeat(19) + "Pa1"), 0, 12, 1);
    }

    private static void shareOfFiveAtOnePlace() {
        PaperTrellis x = Check.of("W220llllPa0Pa0Pa1Pa2Pa3");
        PaperTrellis y = Check.of("W220ltttPa0Pa0Pa0Pa2Pa3");
        for (int boy = 0; boy < 5; boy++) {
            shared("a fifth of four", x, boy, 4, 5);
            shared("a fifth of one", y, boy, 1, 5);
        }
    }

    private static void shareOfThoseWhoShareNothing() {
        PaperTrellis x = Check.of("W520ltlttttttlPa0Pc0Pj0");
        for (int boy = 0; boy < 3; boy++) {
            shared("its own CELL alone", x, boy, 1, 1);
        }
    }

    /** "in least terms" */
    private static void shareInLeastTerms() {
        shared("two halves are 2 of 1", Check.of("W220llllPa0Pb0"), 0, 2, 1);
        shared("a quarter of four is 1 of 1", Check.of("W220llllPa0Pa0Pa0Pa0"), 3, 1, 1);
        shared("a third of one", Check.of("W220ltttPa0Pa0Pa0"), 2, 1, 3);
        shared("by sixtieths", Check.of("W520rrlrlrrlllPg0Ph0Pe0Pb1Pf3"), 1, 119, 60);
    }

    private static void orders(List<Integer> came, int[] reaches, int boy, long[] sums) {
        if (came.size() == reaches.length) {
            sums[1]++;
            int have = 0;
            for (int i : came) {
                sums[0] += i == boy ? Integer.bitCount(have | reaches[i]) - Integer.bitCount(have) : 0;
                have |= reaches[i];
            }
            return;
        }
        for (int i = 0; i < reaches.length; i++) {
            if (!came.contains(i)) {
                List<Integer> more = new ArrayList<>(came);
                more.add(i);
                orders(more, reaches, boy, sums);
            }
        }
    }

    /** "if BOYS come one by one, in each order as likely: by how many in the mean .." */
    private static void shareByAllOrders() {
        String[] texts = {"W543lllllllbltblllllrtblPa0Pe1Pk2Pt3Pi0", "W440lllllllbltblllllPo0Pm2Pd0Pf2Pg1",
            "W332ltblrtlblPa0Pa1Pc2", "W231tlbrltPb3Pb2Pc1Pd0", "W220ltllPa0"};
        for (String text : texts) {
            PaperTrellis x = Check.of(text);
            int boys = x.about(3);
            for (int out = 0; out <= 1; out++) {
                int[] reaches = new int[boys];
                for (int boy = 0; boy < boys; boy++) {
                    reaches[boy] = x.reach(boy, 2);
                }
                for (int boy = 0; boy < boys; boy++) {
                    long[] sums = new long[2];
                    orders(new ArrayList<>(), reaches, boy, sums);
                    long above = x.share(boy, true), below = x.share(boy, false);
                    check.due("the mean of " + boy + " in " + text, above * sums[1], below * sums[0]);
                    long divisor = 1;
                    for (long k = 2; k <= below; k++) {
                        divisor = above % k == 0 && below % k == 0 ? k : divisor;
                    }
                    check.due("in least terms", divisor, 1);
                }
                x.step(0, 1);
                x.step(boys - 1, 3);
            }
        }
    }

    /** "in the REACH in 2 STEPS": the third CELL on is no part of it */
    private static void shareIsByTwoSteps() {
        PaperTrellis x = Check.of("W530llll" + "t".repeat(11) + "Pa0Pd3");
        shared("0, 1, 2, and 3 over the JOIN is shut: half of 1, 2", x, 0, 2, 1);
        shared("3, 2, 1", x, 1, 2, 1);
    }
}
