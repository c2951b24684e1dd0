import java.math.BigInteger;

/** RESTS, STRAYS, THE SEED and NIGHTS (promises 25 to 28) at the edges. */
public final class ChancesEdgesTest {
    private static final Check check = new Check("ChancesEdgesTest");
    private static final int UNKNOWN = PaperTrellis.UNKNOWN, BAD = PaperTrellis.BAD, LATE = PaperTrellis.LATE;
    private static final int LEAST = Integer.MIN_VALUE, MOST = Integer.MAX_VALUE;

    public static void main(String[] args) {
        restsAreUnknownThenBad();
        restsOfAllPairs();
        restsOfOnePair();
        restsOfTwoTheFirst();
        restsAtTheLastPlace();
        restsSetWidthsAside();
        restsAtARose();
        restsByKind();
        restsTogetherAheadOfARose();
        straysAreUnknownThenBad();
        straysInLeastTerms();
        straysByFive();
        straysIsHomeAndNotAlike();
        straysFromTheLastPlace();
        theSeedIsAnyLong();
        theSeedWraps();
        nightsAreBad();
        nightsByEachLot();
        nightsByEachLotOfLess();
        nightsByTheUpperBits();
        nightsAsActsWouldBe();
        nightsChangeNothingElse();
        nightsOfFiveWhoAreOut();
        check.end();
    }

    /** Promise 25: "UNKNOWN: both; BAD: both are one, what" */
    private static void restsAreUnknownThenBad() {
        PaperTrellis x = Check.of("W220llllPa0Pb0");
        int[] boys = {-1, 2, LEAST, MOST};
        int[] whats = {-1, 2, LEAST, MOST};
        for (int boy : boys) {
            check.due("the one, " + boy, x.rests(boy, 0, 0), UNKNOWN);
            check.due("the other, " + boy, x.rests(0, boy, 0), UNKNOWN);
            check.due("both are one that there is not", x.rests(boy, boy, 0), UNKNOWN);
            for (int what : whats) {
                check.due("the one, and what", x.rests(boy, 1, what), UNKNOWN);
                check.due("the other, and what", x.rests(1, boy, what), UNKNOWN);
                check.due("both are one that there is not, and what", x.rests(boy, boy, what), UNKNOWN);
            }
        }
        for (int what : whats) {
            check.due("what of " + what, x.rests(0, 1, what), BAD);
            check.due("both are one, and what of " + what, x.rests(0, 0, what), BAD);
        }
        for (int what = 0; what <= 1; what++) {
            check.due("both are the first", x.rests(0, 0, what), BAD);
            check.due("both are the last", x.rests(1, 1, what), BAD);
        }
        check.due("the last and the first", x.rests(1, 0, 1), 0);
    }

    private static void resting(String what, PaperTrellis x, int one, int other, int many, int first) {
        check.due(what + ", how many", x.rests(one, other, 0), many);
        check.due(what + ", the first one", x.rests(one, other, 1), first);
    }

    /** "if it can (else it stays)": shut in, no WAY is more than another */
    private static void restsOfAllPairs() {
        resting("both are shut in at one CELL", Check.of("W220ltttPa0Pa3"), 0, 1, 16, 0);
        resting("they never meet", Check.of("W220llllPa0Pb0"), 0, 1, 16, 0);
    }

    /** The one comes to 0, 2, 7, 4, the other stays at 1 or goes down to 4: they meet by down and down alone. */
    private static void restsOfOnePair() {
        PaperTrellis x = Check.of("W332tltllltttPb1Pb0");
        resting("the last pair", x, 0, 1, 1, 33);
        resting("the other way round", x, 1, 0, 1, 33);
        PaperTrellis y = Check.of("W330blttllbrbPg2Pb1");
        resting("the one right, the other up", y, 0, 1, 1, 12);
        resting("the one up, the other right", y, 1, 0, 1, 21);
    }

    /** "the first one (10 times the one and the other)" */
    private static void restsOfTwoTheFirst() {
        // The one comes to 1, 1, 2, 2 by its ways, the other to 2, 2, 1, 1.
        resting("of eight", Check.of("W220llllPa0Pd0"), 0, 1, 8, 2);
        resting("the other way round", Check.of("W220llllPa0Pd0"), 1, 0, 8, 2);
    }

    /** "if it can (else it stays)": beyond WIDTH 3 the one can not go, so it is where the other comes to. */
    private static void restsAtTheLastPlace() {
        PaperTrellis x = Check.of("W220llllPa0Pa0");
        Check.go(x, 0, "1");
        resting("in WIDTH 0 they never meet", x, 0, 1, 16, 0);
        Check.go(x, 0, "111111");
        check.due("the last PLACE", x.step(0, 1), LATE);
        resting("in WIDTH 3 by right and left, right and right", x, 0, 1, 8, 2);
        resting("the other way round", x, 1, 0, 8, 1);
    }

    /** "if both are at one CELL then (WIDTHS, HEIGHTS set aside)" */
    private static void restsSetWidthsAside() {
        PaperTrellis x = Check.of("W220llllPa0Pd0");
        resting("side by side", x, 0, 1, 8, 2);
        Check.go(x, 0, "1111");
        Check.go(x, 0, "2222");
        resting("far off, at like CELLS", x, 0, 1, 8, 2);
    }

    /** "and 1, if it went, and 1 more, if it is at a ROSE" */
    private static void restsAtARose() {
        PaperTrellis x = Check.of("W320rltttlPa0Pf0");
        // The one stays at its ROSE or goes right to 1, the other goes up or down to 2 never, as it is shut.
        check.due("WAYS of the one", x.boy(0, 5), 2);
        check.due("WAYS of the other", x.boy(1, 5), 0);
        resting("1 for going is as much as 1 for the ROSE", x, 0, 1, 16, 0);
        PaperTrellis y = Check.of("W320lrtttlPa0Pf0");
        resting("2 for going to a ROSE", y, 0, 1, 4, 10);
        PaperTrellis z = Check.of("W320rrtttlPa0Pf0");
        resting("2 for going from ROSE to ROSE", z, 0, 1, 4, 10);
        PaperTrellis s = Check.of("W320lltttlPa0Pf0");
        resting("1 for going to a LEAF", s, 0, 1, 4, 10);
    }

    private static void restsByKind() {
        PaperTrellis x = Check.of("W320ltltltPa0Pa1Pa2");
        check.due("a PLAIN one is shut in but for left", x.boy(0, 5), 1);
        check.due("a SMALL one is not", x.boy(1, 5), 15);
        resting("both left, to 2", x, 0, 1, 1, 0);
        PaperTrellis y = Check.of("W320ltbtltPa0Pa2");
        check.due("a SHY one is shut in", y.boy(1, 5), 0);
        // The one may stay with the other (3), or go to the BIRD (1).
        resting("the one stays", y, 0, 1, 12, 10);
    }

    /** "each has 3": staying with the other is more than the 2 for going to a ROSE, where a PYM can not follow. */
    private static void restsTogetherAheadOfARose() {
        PaperTrellis x = Check.of("W321lttttrPa0Pa3");
        check.due("the one can go left alone", x.boy(0, 5), 1);
        check.due("there is a ROSE", x.cell(x.beside(0, 0, false)), 3);
        check.due("the other is shut in", x.boy(1, 5), 0);
        resting("the one stays", x, 0, 1, 12, 10);
        resting("the other way round", x, 1, 0, 12, 1);
    }

    /** Promise 26: "UNKNOWN; BAD: n"; "n times (1 .. 5)" */
    private static void straysAreUnknownThenBad() {
        PaperTrellis x = Check.of("W220llllPa0Pb0");
        int[] boys = {-1, 2, LEAST, MOST};
        int[] bad = {0, 6, -1, 7, LEAST, MOST};
        for (int boy : boys) {
            check.due("strays(" + boy + ", 1)", x.strays(boy, 1, true), UNKNOWN);
            for (int n : bad) {
                check.due("strays(" + boy + ", " + n + ")", x.strays(boy, n, false), UNKNOWN);
            }
        }
        for (int n : bad) {
            check.due("strays(1, " + n + "), above", x.strays(1, n, true), BAD);
            check.due("strays(1, " + n + "), below", x.strays(1, n, false), BAD);
        }
        check.due("strays(1, 1)", x.strays(1, 1, false), 1);
        check.due("strays(1, 5)", x.strays(1, 5, false), 1);
    }

    private static void strayed(String what, PaperTrellis x, int n, int above, int below) {
        check.due(what + ", above", x.strays(0, n, true), above);
        check.due(what + ", below", x.strays(0, n, false), below);
    }

    /** "FRACTIONS are told above (upper = true), below, in least terms": 0 is 0 of 1 */
    private static void straysInLeastTerms() {
        strayed("none of four", Check.of("W220llllPa0"), 1, 0, 1);
        strayed("one of four", Check.of("W320lltlllPa0"), 1, 1, 4);
        strayed("two of four", Check.of("W220ltllPa0"), 1, 1, 2);
        strayed("three of four", Check.of("W320ltltllPa0"), 1, 3, 4);
        strayed("four of four", Check.of("W320ltttllPa0"), 1, 1, 1);
        strayed("six of sixteen", Check.of("W220ltllPa0"), 2, 3, 8);
        strayed("four of sixteen", Check.of("W220llllPa0"), 2, 1, 4);
        strayed("36 of 256", Check.of("W220llllPa0"), 4, 9, 64);
    }

    private static void straysByFive() {
        PaperTrellis x = Check.of("W320ltltttPa0");
        // It goes left to 2 of the WIDTH that is less, or stays; from there it goes right, and stays by the rest.
        int home = 1, beside = 0;
        for (int n = 1; n <= 5; n++) {
            int wasHome = home;
            home = 3 * wasHome + beside;
            beside = wasHome + 3 * beside;
            int all = 1 << 2 * n, divisor = Integer.lowestOneBit(home | all);
            strayed("by " + n, x, n, home / divisor, all / divisor);
        }
        Check.go(x, 0, "0");
        strayed("from beside, by 1", x, 1, 1, 4);
        strayed("from beside, by 5", x, 5, 31, 64);
        PaperTrellis y = Check.of("W220ltttPa0");
        for (int n = 1; n <= 5; n++) {
            strayed("shut in, by " + n, y, n, 1, 1);
        }
    }

    /** "that it is HOME behind them": not only at a like CELL */
    private static void straysIsHomeAndNotAlike() {
        PaperTrellis x = Check.of("W220llllPa0");
        // Two steps on one way come to a like cell of another width or height; only back and forth is home.
        strayed("by 2", x, 2, 1, 4);
        Check.go(x, 0, "11");
        check.due("at a like CELL", x.boy(0, 0), 0);
        strayed("by 1 from there", x, 1, 0, 1);
        strayed("by 2 from there: left and left", x, 2, 1, 16);
        PaperTrellis y = Check.of("W220blllPa2");
        strayed("a SHY one does not come back to its BIRD", y, 2, 0, 1);
        PaperTrellis z = Check.of("W220bttlPa2");
        strayed("a SHY one that is shut in at its BIRD", z, 5, 1, 1);
    }

    private static void straysFromTheLastPlace() {
        PaperTrellis x = Check.of("W220llllPa0");
        Check.go(x, 0, "11111");
        strayed("five steps off", x, 5, 1, 1024);
        strayed("five steps off, by 4", x, 4, 0, 1);
        Check.go(x, 0, "11");
        strayed("at the last PLACE", x, 5, 0, 1);
    }

    /** Promise 27: "THE SEED is v: what it was", "a long; 0 at first" */
    private static void theSeedIsAnyLong() {
        PaperTrellis x = new PaperTrellis();
        long[] all = {Long.MAX_VALUE, Long.MIN_VALUE, -1, 1, 0, 1L << 32, -(1L << 32), 6364136223846793005L};
        long was = 0;
        for (long v : all) {
            check.due("seed(" + v + ")", x.seed(v), was);
            was = v;
        }
        check.due("the last one", x.seed(0), was);
    }

    private static BigInteger on(BigInteger seed) {
        BigInteger all = BigInteger.ONE.shiftLeft(64);
        return seed.multiply(BigInteger.valueOf(6364136223846793005L))
            .add(BigInteger.valueOf(1442695040888963407L)).mod(all);
    }

    private static BigInteger unsigned(long seed) {
        return BigInteger.valueOf(seed).mod(BigInteger.ONE.shiftLeft(64));
    }

    /** "what is left of its upper 31 bits by 40" */
    private static int lotBehind(long seed) {
        return on(unsigned(seed)).shiftRight(33).mod(BigInteger.valueOf(40)).intValue();
    }

    /** "(64 bits, wrapping)" */
    private static void theSeedWraps() {
        long[] all = {0, 1, -1, 2, Long.MAX_VALUE, Long.MIN_VALUE, 1L << 62, 3L << 61, -6364136223846793005L, 40, 77};
        for (long v : all) {
            PaperTrellis x = new PaperTrellis();
            BigInteger due = unsigned(v);
            for (int m = 1; m <= 30; m++) {
                x.seed(v);
                x.nights(m);
                due = on(due);
                check.due(m + " times on from " + v, x.seed(0), due.longValue());
            }
        }
    }

    /** Promise 28: "BAD: m"; "m times (1 .. 30)" */
    private static void nightsAreBad() {
        PaperTrellis x = Check.of("W220llllPa0");
        x.seed(5);
        int[] bad = {0, 31, -1, 32, LEAST, MOST};
        for (int m : bad) {
            check.due("nights(" + m + ")", x.nights(m), BAD);
        }
        check.due("THE SEED stays", x.seed(5), 5);
        x.nights(1);
        check.due("THE SEED, once on", x.seed(5), on(BigInteger.valueOf(5)).longValue());
        check.due("nights(30)", Math.min(0, x.nights(30)), 0);
    }

    private static long seedOf(int lot) {
        long seed = -20;
        while (lotBehind(seed) != lot) {
            seed++;
        }
        return seed;
    }

    /** What a lot does, done by the calls for it. */
    private static void does(PaperTrellis x, int lot) {
        if (lot < 20) {
            x.step(lot / 4, lot % 4);
        } else {
            x.call(lot - 20);
        }
    }

    private static int out(PaperTrellis x) {
        return x.about(3) - Integer.bitCount(x.about(7));
    }

    private static PaperTrellis allOut() {
        PaperTrellis x = Check.of("W541" + "ltlbl".repeat(4) + "Pa0Pe1Pi3Pm2Po0");
        int[] ways = {3, 0, 2, 2, 3};
        for (int boy = 0; boy < 5; boy++) {
            Check.go(x, boy, String.valueOf(ways[boy]));
        }
        return x;
    }

    /** "0 .. 19 that by 4 (down) is a BOY that STEPPED the WAY that is left by 4, if it can; 20 .. 39 .." */
    private static void nightsByEachLot() {
        for (int lot = 0; lot < 40; lot++) {
            PaperTrellis x = Check.of("W541" + "ltlbl".repeat(4) + "Pa0Pe1Pi3Pm2Po0");
            PaperTrellis y = Check.of("W541" + "ltlbl".repeat(4) + "Pa0Pe1Pi3Pm2Po0");
            x.seed(seedOf(lot));
            does(y, lot);
            check.due("lot " + lot + ", all are HOME", x.nights(1), out(y));
            PaperTrellis z = allOut();
            PaperTrellis s = allOut();
            check.due("all are out", out(z), 5);
            z.seed(seedOf(lot));
            does(s, lot);
            check.due("lot " + lot + ", all are out", z.nights(1), out(s));
        }
    }

    /** "if there is such a one": no such BOY, no such CELL */
    private static void nightsByEachLotOfLess() {
        for (int lot = 0; lot < 40; lot++) {
            PaperTrellis x = Check.of("W220llllPa0");
            Check.go(x, 0, "1");
            x.seed(seedOf(lot));
            boolean home = lot == 0 || lot == 20 || lot == 21 || lot == 23;
            check.due("one BOY, four CELLS, lot " + lot, x.nights(1), home ? 0 : 1);
        }
    }

    /** A seed of which the next is below 0: its upper bits are told from 0 on. */
    private static void nightsByTheUpperBits() {
        int below = 0;
        for (long seed = 0; seed < 200; seed++) {
            PaperTrellis x = Check.of("W220llllPa0");
            x.seed(seed);
            int due = lotBehind(seed) < 4 ? 1 : 0;
            check.due("by seed " + seed, x.nights(1), due);
            below += on(BigInteger.valueOf(seed)).testBit(63) ? 1 : 0;
        }
        check.due("some of them were below 0", below > 50 ? 1 : 0, 1);
    }

    /** "how many BOYS are not HOME, each time, together" */
    private static void nightsAsActsWouldBe() {
        long[] seeds = {0, 5, -1, Long.MIN_VALUE, Long.MAX_VALUE, 123456789012345L};
        for (long seed : seeds) {
            PaperTrellis x = allOut();
            PaperTrellis y = allOut();
            long next = seed;
            int together = 0;
            for (int m = 1; m <= 30; m++) {
                does(y, lotBehind(next));
                next = on(unsigned(next)).longValue();
                together += out(y);
                x.seed(seed);
                check.due(m + " nights by " + seed, x.nights(m), together);
            }
        }
    }

    /** "(Nothing changes but THE SEED.)" */
    private static void nightsChangeNothingElse() {
        PaperTrellis x = allOut();
        x.keep(0);
        x.see(1, 1, 1);
        x.cut(1);
        x.nights(30);
        check.due("who is HOME", x.about(7), 0);
        check.due("ACTS", x.about(8), 6);
        check.due("SEEN", x.about(9), 1);
        check.due("THORNS", Integer.bitCount(x.about(4)), 3);
        PaperTrellis y = allOut();
        for (int boy = 0; boy < 5; boy++) {
            for (int what = 0; what < 5; what++) {
                check.due("boy(" + boy + ", " + what + ")", x.boy(boy, what), y.boy(boy, what));
            }
        }
        check.due("SLOT 1 is not kept", x.goOn(1), LATE);
        check.due("SLOT 0 is", x.goOn(0), 5);
    }

    private static boolean bringsACall(long seed) {
        long next = seed;
        for (int i = 0; i < 30; i++) {
            int lot = lotBehind(next);
            if (lot >= 20 && lot < 24) {
                return true;
            }
            next = on(unsigned(next)).longValue();
        }
        return false;
    }

    /** The most that can be: five SHY ones do not step HOME to their BIRD, and none is called for 30 nights. */
    private static void nightsOfFiveWhoAreOut() {
        long seed = 0;
        while (bringsACall(seed)) {
            seed++;
        }
        PaperTrellis x = Check.of("W220blllPa2Pa2Pa2Pa2Pa2");
        for (int boy = 0; boy < 5; boy++) {
            Check.go(x, boy, boy % 2 == 0 ? "1" : "3");
        }
        x.seed(seed);
        check.due("five times 30", x.nights(30), 150);
        x.seed(seed);
        check.due("five times 1", x.nights(1), 5);
    }
}
