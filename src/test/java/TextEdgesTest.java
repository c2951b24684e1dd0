/** THE TEXT, its FAULT, and what is told of them (promises 2 to 6), at the edges. */
public final class TextEdgesTest {
    private static final Check check = new Check("TextEdgesTest");
    private static final int BAD = PaperTrellis.BAD, LATE = PaperTrellis.LATE, FULL = PaperTrellis.FULL;
    private static final int NONE = PaperTrellis.NONE;
    private static final String LONGEST = "W543" + "l".repeat(20) + "Pa0Pt3Pj1Pk2Pt0";

    public static void main(String[] args) {
        aByteIsNoughtTo255();
        thereAre48BytesAtMost();
        theEmptyTextIsWiped();
        whatMayComeAtEachPlace();
        aThornIsNoHome();
        whereAllAreThornsNoBoyCanCome();
        thereAreFiveBoysAtMost();
        theLengthWhereItIsOnlyNotAtItsEnd();
        whateverCameBehindIt();
        itsLengthIsSetAside();
        aFaultIsMendedByWiping();
        theLeastAndTheGreatestPaper();
        aPaperIsRefusedForAnyFault();
        thereIsATextWithoutAPaper();
        check.end();
    }

    private static int faultOf(String text) {
        PaperTrellis x = new PaperTrellis();
        Check.write(x, text);
        return x.fault();
    }

    /** Promise 2: "A byte (0 .. 255)", "BAD" */
    private static void aByteIsNoughtTo255() {
        PaperTrellis x = new PaperTrellis();
        int[] bad = {-1, 256, -2, 257, Integer.MIN_VALUE, Integer.MAX_VALUE, 'W' + 256, 'W' - 256};
        for (int letter : bad) {
            check.due("write(" + letter + ")", x.write(letter), BAD);
            check.due("no byte came", x.about(10), 0);
        }
        check.due("write(0)", x.write(0), 1);
        check.due("write(255)", x.write(255), 2);
        check.due("write(1)", x.write(1), 3);
        check.due("write(254)", x.write(254), 4);
        check.due("bytes", x.about(10), 4);
    }

    /** "THE TEXT is bytes (48 at most)", "FULL: there are 48" */
    private static void thereAre48BytesAtMost() {
        PaperTrellis x = new PaperTrellis();
        Check.write(x, LONGEST);
        for (int i = LONGEST.length() + 1; i <= 48; i++) {
            check.due("the " + i + "th byte", x.write('P'), i);
        }
        check.due("the 49th byte", x.write('P'), FULL);
        check.due("a 49th byte of another kind", x.write(0), FULL);
        check.due("BAD is told ahead of FULL, below", x.write(-1), BAD);
        check.due("BAD is told ahead of FULL, above", x.write(256), BAD);
        check.due("there are 48 still", x.about(10), 48);
        check.due("and the FAULT is where it was", x.fault(), 39);
        check.due("wiped", x.wipe(), 48);
        check.due("there is room again", x.write('W'), 1);
    }

    /** Promise 3: "THE TEXT is empty: how long it was" */
    private static void theEmptyTextIsWiped() {
        PaperTrellis x = new PaperTrellis();
        check.due("wiped at first", x.wipe(), 0);
        x.write('W');
        check.due("wiped of one", x.wipe(), 1);
        check.due("wiped of none", x.wipe(), 0);
        check.due("it is empty", x.about(10), 0);
        check.due("the FAULT of the empty one", x.fault(), 0);
        check.due("the PAPER of the empty one", x.paper(), LATE);
    }

    /** All bytes that may come behind a text that is right so far. */
    private static void mayCome(String text, String bytes) {
        int found = 0;
        for (int letter = 0; letter < 256; letter++) {
            boolean may = bytes.indexOf((char) letter) >= 0;
            boolean did = faultOf(text + (char) letter) != text.length();
            check.due("byte " + letter + " behind " + text, did ? 1 : 0, may ? 1 : 0);
            found += did ? 1 : 0;
        }
        check.due("bytes that may come behind " + text, found, bytes.length());
    }

    /** "A PAPER is a TEXT: W, w, h, d, then a byte for each CELL (l, t, b, r), then BOYS": Pck */
    private static void whatMayComeAtEachPlace() {
        mayCome("", "W");
        mayCome("W", "2345");
        mayCome("W5", "234");
        mayCome("W52", "01");
        mayCome("W53", "012");
        mayCome("W54", "0123");
        mayCome("W221", "ltbr");
        mayCome("W221lll", "ltbr");
        mayCome("W221llll", "P");
        mayCome("W543" + "l".repeat(19), "ltbr");
        mayCome("W543" + "l".repeat(20), "P");
        mayCome("W221llllP", "abcd");
        mayCome("W231llllllP", "abcdef");
        mayCome("W543" + "l".repeat(20) + "P", "abcdefghijklmnopqrst");
        mayCome("W221llllPa", "0123");
        mayCome("W221llllPd", "0123");
        mayCome("W221llllPa0", "P");
        mayCome("W221llllPa0P", "abcd");
        mayCome("W221llllPa0Pa", "0123");
    }

    /** "CELL c (.., that there is, and no THORN)", whatever kind comes behind it */
    private static void aThornIsNoHome() {
        mayCome("W221tlblP", "bcd");
        mayCome("W221lltrP", "abd");
        mayCome("W221ltttP", "a");
        mayCome("W221tttrP", "d");
        check.due("a SMALL one at a THORN", faultOf("W220ltllPb1"), 9);
        check.due("a SHY one at a BIRD", faultOf("W220lbllPb2"), NONE);
        check.due("two at one CELL", faultOf("W220lbllPb2Pb2"), NONE);
    }

    /** "the first byte by which THE TEXT can be no PAPER, whatever came behind it": no c can come behind that P. */
    private static void whereAllAreThornsNoBoyCanCome() {
        mayCome("W220tttt", "");
        mayCome("W220tttb", "P");
        check.due("THORNS alone", faultOf("W543" + "t".repeat(20)), NONE);
        check.due("THORNS alone and a P", faultOf("W543" + "t".repeat(20) + "P"), 24);
    }

    /** "BOYS, none or more (5 at most)" */
    private static void thereAreFiveBoysAtMost() {
        String text = "W220llll";
        for (int boys = 0; boys <= 5; boys++) {
            PaperTrellis x = new PaperTrellis();
            Check.write(x, text);
            check.due("the FAULT by " + boys + " BOYS", x.fault(), NONE);
            check.due("the PAPER by " + boys + " BOYS", x.paper(), 220 + boys);
            check.due("BOYS", x.about(3), boys);
            text += "Pa0";
        }
        check.due("the FAULT by 6 BOYS", faultOf(text), 23);
        mayCome("W220llllPa0Pa0Pa0Pa0", "P");
        mayCome("W220llllPa0Pa0Pa0Pa0Pa0", "");
        mayCome(LONGEST, "");
    }

    /** "its length, if it is only not at its end; NONE: none" */
    private static void theLengthWhereItIsOnlyNotAtItsEnd() {
        for (int length = 0; length <= LONGEST.length(); length++) {
            boolean whole = length >= 24 && (length - 24) % 3 == 0;
            check.due("the first " + length + " bytes", faultOf(LONGEST.substring(0, length)), whole ? NONE : length);
        }
        check.due("a ROW less than is told", faultOf("W440" + "l".repeat(12)), 16);
        check.due("a CELL less than is told", faultOf("W440" + "l".repeat(15)), 19);
    }

    /** "whatever came behind it" */
    private static void whateverCameBehindIt() {
        for (int at = 0; at < LONGEST.length(); at++) {
            String text = LONGEST.substring(0, at) + "?" + LONGEST.substring(at + 1);
            check.due("a wrong byte at " + at, faultOf(text), at);
            check.due("two wrong bytes from " + at, faultOf(text.substring(0, at + 1) + "??"), at);
        }
        check.due("the DROP is as h, and no CELLS", faultOf("W222"), 3);
        check.due("the DROP is as h, and all CELLS", faultOf("W222llllPa0"), 3);
        check.due("a CELL too much", faultOf("W220lllllPa0"), 8);
    }

    /** "(its length set aside)": a BOY who is not told to his end is no FAULT ahead of there, nor is a 40th byte. */
    private static void itsLengthIsSetAside() {
        check.due("40 bytes", faultOf(LONGEST + "P"), 39);
        check.due("48 bytes", faultOf(LONGEST + "Pa0Pa0Pa0"), 39);
        check.due("48 bytes, wrong ahead of that", faultOf("W543" + "l".repeat(20) + "Pa0Pt4" + "Pa0".repeat(6)), 29);
    }

    private static void aFaultIsMendedByWiping() {
        PaperTrellis x = new PaperTrellis();
        Check.write(x, "W22?");
        check.due("a FAULT", x.fault(), 3);
        check.due("told twice", x.fault(), 3);
        Check.write(x, "W220llll");
        check.due("none when it is wiped", x.fault(), NONE);
        check.due("told twice", x.fault(), NONE);
        x.wipe();
        check.due("what was there is gone", x.fault(), 0);
    }

    /** Promise 5: "100 times w, 10 times h, and BOYS" */
    private static void theLeastAndTheGreatestPaper() {
        PaperTrellis x = new PaperTrellis();
        Check.write(x, LONGEST);
        check.due("the greatest", x.paper(), 545);
        check.due("its DROP", x.about(2), 3);
        check.due("its last CELL", x.cell(19), 0);
        check.due("its last BOY's HOME", x.boy(4, 2), 19);
        check.due("its last BOY's KIND", x.boy(4, 1), 0);
        Check.write(x, "W220rrrr");
        check.due("the least", x.paper(), 220);
        check.due("its DROP", x.about(2), 0);
        check.due("a CELL that was", x.cell(4), PaperTrellis.UNKNOWN);
        check.due("a BOY that was", x.boy(0, 0), PaperTrellis.UNKNOWN);
    }

    /** "LATE: a FAULT" */
    private static void aPaperIsRefusedForAnyFault() {
        for (int length = 0; length <= LONGEST.length() + 1; length++) {
            PaperTrellis x = new PaperTrellis();
            Check.write(x, (LONGEST + "P").substring(0, length));
            boolean whole = x.fault() == NONE;
            check.due("a PAPER of " + length + " bytes", x.paper(), whole ? 540 + (length - 24) / 3 : LATE);
            check.due("w behind it", x.about(0), whole ? 5 : 2);
        }
    }

    /** THE TEXT and THE PAPER are two: what is written is not yet taken, and what is wiped stays taken. */
    private static void thereIsATextWithoutAPaper() {
        PaperTrellis x = new PaperTrellis();
        Check.write(x, "W330rrrrrrrrrPa0");
        check.due("not yet", x.about(0) * 100 + x.about(1) * 10 + x.about(3), 220);
        check.due("taken", x.paper(), 331);
        check.due("wiped", x.wipe(), 16);
        check.due("it stays", x.about(0) * 100 + x.about(1) * 10 + x.about(3), 331);
        check.due("and stays when it is refused", x.paper(), LATE);
        check.due("ROSES", x.about(6), 511);
    }
}
