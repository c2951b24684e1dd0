/** Terms, part 1, at the edges: ROWS, CELLS, WIDTHS, HEIGHTS, WAYS, the JOIN, the DROP. */
public final class PatternEdgesTest {
    private static final Check check = new Check("PatternEdgesTest");
    private static final int UNKNOWN = PaperTrellis.UNKNOWN, LATE = PaperTrellis.LATE;
    private static final int PLAIN = 0, PYM = 3;
    private static final int LEFT = 0, RIGHT = 1, UP = 2, DOWN = 3;

    public static void main(String[] args) {
        rowsAreTwoToFour();
        cellsOfARowAreTwoToFive();
        cellsAreNumberedAsTheyCome();
        widthsAreSeven();
        heightsAreSeven();
        upFromRowNought();
        downFromTheLastRow();
        rightOverTheJoin();
        leftOverTheJoin();
        aPymsRowStaysOverTheJoin();
        awayFromTheJoinTheDropIsNothing();
        thereAreNoPlacesBeyondACorner();
        check.end();
    }

    /** "h ROWS (2 .. 4)" */
    private static void rowsAreTwoToFour() {
        int[] due = {2, 3, 3, 3, 2};
        for (int h = 1; h <= 5; h++) {
            PaperTrellis x = new PaperTrellis();
            Check.write(x, "W2" + h);
            check.due("the fault of " + h + " ROWS", x.fault(), due[h - 1]);
        }
        for (int h = 2; h <= 4; h++) {
            check.due(h + " ROWS", Check.of(Check.leaves(3, h, 0)).about(1), h);
        }
    }

    /** "of w CELLS (2 .. 5)" */
    private static void cellsOfARowAreTwoToFive() {
        int[] due = {1, 2, 2, 2, 2, 1};
        for (int w = 1; w <= 6; w++) {
            PaperTrellis x = new PaperTrellis();
            Check.write(x, "W" + w);
            check.due("the fault of " + w + " CELLS in a ROW", x.fault(), due[w - 1]);
        }
        for (int w = 2; w <= 5; w++) {
            check.due(w + " CELLS in a ROW", Check.of(Check.leaves(w, 3, 0)).about(0), w);
        }
    }

    /** "numbered from 0 on as they come (the ROW times w, and the COLUMN, each from 0)" */
    private static void cellsAreNumberedAsTheyCome() {
        for (int w = 2; w <= 5; w++) {
            for (int h = 2; h <= 4; h++) {
                PaperTrellis x = Check.of(Check.leaves(w, h, 0) + Check.boy(0, PLAIN));
                for (int row = 1; row < h; row++) {
                    check.due("ROW " + row + ", COLUMN 0", x.step(0, DOWN), row * w);
                }
                for (int column = 1; column < w; column++) {
                    check.due("the last ROW, COLUMN " + column, x.step(0, RIGHT), (h - 1) * w + column);
                }
                check.due("the last CELL", x.cell(w * h - 1), 0);
                check.due("one more", x.cell(w * h), UNKNOWN);
                check.due("one less than 0", x.cell(-1), UNKNOWN);
            }
        }
    }

    /** "WIDTHS .. told by a number -3 .. 3", "WIDTHS .. beyond 3 there are not" */
    private static void widthsAreSeven() {
        for (int w = 2; w <= 5; w++) {
            for (int kind = PLAIN; kind <= PYM; kind += PYM) {
                PaperTrellis x = Check.of(Check.leaves(w, 2, 1) + Check.boy(0, kind));
                for (int steps = 1; steps < 4 * w; steps++) {
                    check.due("right, the COLUMN", x.step(0, RIGHT) % w, steps % w);
                    check.due("right, the WIDTH and 3", x.boy(0, 3), 3 + steps / w);
                }
                check.due("beyond WIDTH 3", x.step(0, RIGHT), LATE);
                check.due("WIDTH 3 still", x.boy(0, 3), 6);
                PaperTrellis y = Check.of(Check.leaves(w, 2, 1) + Check.boy(w - 1, kind));
                for (int steps = 1; steps < 4 * w; steps++) {
                    check.due("left, the COLUMN", y.step(0, LEFT) % w, w - 1 - steps % w);
                    check.due("left, the WIDTH and 3", y.boy(0, 3), 3 - steps / w);
                }
                check.due("beyond WIDTH -3", y.step(0, LEFT), LATE);
                check.due("WIDTH -3 still", y.boy(0, 3), 0);
            }
        }
    }

    /** "HEIGHTS .. told by a number -3 .. 3", "HEIGHTS beyond 3 there are not" */
    private static void heightsAreSeven() {
        for (int h = 2; h <= 4; h++) {
            PaperTrellis x = Check.of(Check.leaves(2, h, 1) + Check.boy(0, PLAIN));
            for (int steps = 1; steps < 4 * h; steps++) {
                check.due("down, the CELL", x.step(0, DOWN), steps % h * 2);
                check.due("down, the HEIGHT and 3", x.boy(0, 4), 3 + steps / h);
            }
            check.due("beyond HEIGHT 3", x.step(0, DOWN), LATE);
            check.due("HEIGHT 3 still", x.boy(0, 4), 6);
            PaperTrellis y = Check.of(Check.leaves(2, h, 1) + Check.boy(2 * h - 1, PLAIN));
            for (int steps = 1; steps < 4 * h; steps++) {
                check.due("up, the CELL", y.step(0, UP), (h - 1 - steps % h) * 2 + 1);
                check.due("up, the HEIGHT and 3", y.boy(0, 4), 3 - steps / h);
            }
            check.due("beyond HEIGHT -3", y.step(0, UP), LATE);
            check.due("HEIGHT -3 still", y.boy(0, 4), 0);
        }
    }

    /** "from ROW 0 it is h less 1 in the HEIGHT that is 1 less" */
    private static void upFromRowNought() {
        for (int h = 2; h <= 4; h++) {
            PaperTrellis x = Check.of(Check.leaves(3, h, h - 1) + Check.boy(1, PLAIN) + Check.boy(4, PLAIN));
            check.due("beside, up", x.beside(1, UP, false), 3 * (h - 1) + 1);
            check.due("up from ROW 0", x.step(0, UP), 3 * (h - 1) + 1);
            check.due("the HEIGHT is 1 less", x.boy(0, 4), 2);
            check.due("the WIDTH stays", x.boy(0, 3), 3);
            check.due("up from ROW 1", x.step(1, UP), 1);
            check.due("the HEIGHT stays", x.boy(1, 4), 3);
        }
    }

    /** "down: likewise on, from the last ROW to ROW 0 of the HEIGHT that is 1 more" */
    private static void downFromTheLastRow() {
        for (int h = 2; h <= 4; h++) {
            int last = 3 * (h - 1) + 1;
            PaperTrellis x = Check.of(Check.leaves(3, h, h - 1) + Check.boy(last, PLAIN) + Check.boy(last - 3, PLAIN));
            check.due("beside, down", x.beside(last, DOWN, false), 1);
            check.due("down from the last ROW", x.step(0, DOWN), 1);
            check.due("the HEIGHT is 1 more", x.boy(0, 4), 4);
            check.due("the WIDTH stays", x.boy(0, 3), 3);
            check.due("down from the last ROW but one", x.step(1, DOWN), last);
            check.due("the HEIGHT stays", x.boy(1, 4), 3);
        }
    }

    /** "from the last one (over the JOIN) it is 0 in the WIDTH that is 1 more, and the ROW is d more, by h" */
    private static void rightOverTheJoin() {
        for (int h = 2; h <= 4; h++) {
            for (int drop = 0; drop < h; drop++) {
                for (int row = 0; row < h; row++) {
                    int last = row * 3 + 2, due = (row + drop) % h * 3;
                    String told = "over the JOIN, DROP " + drop + " of " + h + ", ROW " + row;
                    PaperTrellis x = Check.of(Check.leaves(3, h, drop) + Check.boy(last, PLAIN));
                    check.due("beside, " + told, x.beside(last, RIGHT, false), due);
                    check.due("right, " + told, x.step(0, RIGHT), due);
                    check.due("the WIDTH is 1 more, " + told, x.boy(0, 3), 4);
                    check.due("the HEIGHT stays, " + told, x.boy(0, 4), 3);
                    check.due("and left, back again, " + told, x.step(0, LEFT), last);
                    check.due("the WIDTH is as it was, " + told, x.boy(0, 3), 3);
                }
            }
        }
    }

    /** "Left: back again: from COLUMN 0 it is the last one in the WIDTH that is 1 less, and the ROW d less, by h" */
    private static void leftOverTheJoin() {
        for (int h = 2; h <= 4; h++) {
            for (int drop = 0; drop < h; drop++) {
                for (int row = 0; row < h; row++) {
                    int first = row * 3, due = (row - drop + h) % h * 3 + 2;
                    String told = "over the JOIN, DROP " + drop + " of " + h + ", ROW " + row;
                    PaperTrellis x = Check.of(Check.leaves(3, h, drop) + Check.boy(first, PLAIN));
                    check.due("beside, " + told, x.beside(first, LEFT, false), due);
                    check.due("left, " + told, x.step(0, LEFT), due);
                    check.due("the WIDTH is 1 less, " + told, x.boy(0, 3), 2);
                    check.due("the HEIGHT stays, " + told, x.boy(0, 4), 3);
                    check.due("and right, back again, " + told, x.step(0, RIGHT), first);
                }
            }
        }
    }

    /** "A PYM's ROW stays over the JOIN." */
    private static void aPymsRowStaysOverTheJoin() {
        for (int h = 2; h <= 4; h++) {
            for (int drop = 0; drop < h; drop++) {
                for (int row = 0; row < h; row++) {
                    int first = row * 3, last = first + 2;
                    PaperTrellis x = Check.of(Check.leaves(3, h, drop) + Check.boy(first, PYM));
                    check.due("beside, straight left", x.beside(first, LEFT, true), last);
                    check.due("beside, straight right", x.beside(last, RIGHT, true), first);
                    check.due("a PYM, left", x.step(0, LEFT), last);
                    check.due("a PYM's WIDTH", x.boy(0, 3), 2);
                    check.due("a PYM, right", x.step(0, RIGHT), first);
                    check.due("a PYM's HEIGHT", x.boy(0, 4), 3);
                }
            }
        }
    }

    /** Only "from the last one" and "from COLUMN 0" the ROW is another. */
    private static void awayFromTheJoinTheDropIsNothing() {
        PaperTrellis x = Check.of(Check.leaves(5, 4, 3));
        for (int cell = 0; cell < 20; cell++) {
            if (cell % 5 < 4) {
                check.due("right of " + cell, x.beside(cell, RIGHT, false), cell + 1);
            }
            if (cell % 5 > 0) {
                check.due("left of " + cell, x.beside(cell, LEFT, false), cell - 1);
            }
            check.due("up of " + cell, x.beside(cell, UP, false), (cell + 15) % 20);
            check.due("down of " + cell, x.beside(cell, DOWN, false), (cell + 5) % 20);
        }
    }

    /** "WIDTHS, HEIGHTS beyond 3 there are not", for both at once. */
    private static void thereAreNoPlacesBeyondACorner() {
        for (int sideways = LEFT; sideways <= RIGHT; sideways++) {
            for (int upright = UP; upright <= DOWN; upright++) {
                PaperTrellis x = Check.of(Check.leaves(2, 2, 0) + Check.boy(0, PLAIN));
                Check.go(x, 0, String.valueOf(sideways).repeat(6 + sideways));
                Check.go(x, 0, String.valueOf(upright).repeat(6 + upright - UP));
                check.due("no more sideways", x.step(0, sideways), LATE);
                check.due("no more upright", x.step(0, upright), LATE);
                check.due("WAYS from the corner", x.boy(0, 5), 15 - (1 << sideways) - (1 << upright));
                check.due("WIDTH and 3", x.boy(0, 3), 6 * sideways);
                check.due("HEIGHT and 3", x.boy(0, 4), 6 * (upright - UP));
                check.due("no ACT by what is refused", x.about(8), 12 + sideways + upright - UP);
            }
        }
    }
}
