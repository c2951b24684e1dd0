/** A wallpaper that is printed on and on, and the boys who are out in it at night. */
public final class PaperTrellis {
    public static final int UNKNOWN = -1, BAD = -2, LATE = -3, FULL = -4, NONE = -9;

    private static final int LEAF = 0, THORN = 1, BIRD = 2, ROSE = 3, KINDS_OF_CELL = 4;
    private static final int SMALL = 1, SHY = 2, PYM = 3;
    private static final int LEFT = 0, RIGHT = 1, UP = 2, DOWN = 3, WAYS = 4;

    private static final int MOST_BYTES = 48, MOST_CELLS = 20, MOST_BOYS = 5, MOST_ACTS = 14;
    private static final int MOST_SEEN = 6, SLOTS = 2, MOST_STEPS = 9, MOST_STRAYS = 5;
    private static final int MOST_DOINGS = 4, MOST_NIGHTS = 30, SIGHT = 4;

    // A place is one number: its cell, its width and its height, so that places can be rows' indices.
    private static final int SPAN = 7, MIDDLE = 3;
    private static final int A_WIDTH = MOST_CELLS, A_HEIGHT = MOST_CELLS * SPAN;
    private static final int PLACES = A_HEIGHT * SPAN;
    private static final int HOME_SHEET = MIDDLE * A_WIDTH + MIDDLE * A_HEIGHT;
    private static final int NOWHERE = -1;

    private static final long[] THOUSANDS = {1L, 1000L, 1000000L, 1000000000L, 1000000000000L};
    private static final int[] POWERS_OF_FOUR = {1, 4, 16, 64, 256, 1024};

    // 60 can be divided by every number of boys that may share a cell.
    private static final int SIXTIETHS = 60;

    private final Text text = new Text();
    private final Pattern pattern = new Pattern();
    private final Scene now = new Scene(pattern);
    private final Scene trial = new Scene(pattern);
    private final Acts acts = new Acts(pattern);
    private final Scene[] slots = new Scene[SLOTS];
    private final boolean[] kept = new boolean[SLOTS];
    private final Search search = new Search();
    private final Cover cover = new Cover();
    private final Sight sight = new Sight();
    private final Goings goingsOfOne = new Goings();
    private final Goings goingsOfOther = new Goings();
    private long theSeed;

    public PaperTrellis() {
        for (int slot = 0; slot < SLOTS; slot++) {
            slots[slot] = new Scene(pattern);
        }
    }

    // ---- the paper

    public int write(int letter) {
        if (letter < 0 || letter > 255) {
            return BAD;
        }
        return text.add(letter) ? text.length : FULL;
    }

    public int wipe() {
        int was = text.length;
        text.length = 0;
        return was;
    }

    public int fault() {
        return text.firstFault();
    }

    public int paper() {
        if (text.firstFault() != NONE) {
            return LATE;
        }
        pattern.readFrom(text);
        now.begin();
        acts.forgetAll();
        for (int slot = 0; slot < SLOTS; slot++) {
            kept[slot] = false;
        }
        return 100 * pattern.w + 10 * pattern.h + pattern.boys;
    }

    public int about(int what) {
        switch (what) {
            case 0: return pattern.w;
            case 1: return pattern.h;
            case 2: return pattern.drop;
            case 3: return pattern.boys;
            case 4: return now.cellsOfKind(THORN);
            case 5: return now.cellsOfKind(BIRD);
            case 6: return now.cellsOfKind(ROSE);
            case 7: return now.whoIsHome();
            case 8: return acts.count;
            case 9: return sight.count;
            case 10: return text.length;
            default: return BAD;
        }
    }

    public int cell(int cell) {
        return pattern.hasCell(cell) ? now.kindAt(cell) : UNKNOWN;
    }

    public int beside(int cell, int way, boolean straight) {
        if (!pattern.hasCell(cell)) {
            return UNKNOWN;
        }
        return isWay(way) ? pattern.cellBeside(cell, way, straight) : BAD;
    }

    public int boy(int boy, int what) {
        if (!pattern.hasBoy(boy)) {
            return UNKNOWN;
        }
        int place = now.places[boy];
        switch (what) {
            case 0: return cellOf(place);
            case 1: return pattern.boyKinds[boy];
            case 2: return pattern.homes[boy];
            case 3: return widthOf(place);
            case 4: return heightOf(place);
            case 5: return now.waysOpen(boy);
            default: return BAD;
        }
    }

    // ---- acts

    public int step(int boy, int way) {
        if (!pattern.hasBoy(boy)) {
            return UNKNOWN;
        }
        if (!isWay(way)) {
            return BAD;
        }
        if (now.placeOn(boy, now.places[boy], way) == NOWHERE) {
            return LATE;
        }
        acts.remember(now);
        now.goes(boy, way);
        return cellOf(now.places[boy]);
    }

    public int call(int cell) {
        if (!pattern.hasCell(cell)) {
            return UNKNOWN;
        }
        acts.remember(now);
        return now.bringHome(cell);
    }

    public int cut(int cell) {
        if (!pattern.hasCell(cell)) {
            return UNKNOWN;
        }
        if (now.kindAt(cell) != THORN) {
            return LATE;
        }
        acts.remember(now);
        now.cutAway(cell);
        return Integer.bitCount(now.cellsOfKind(THORN));
    }

    public int undo() {
        return acts.takeBack(now) ? acts.count : LATE;
    }

    // ---- ways

    public int far(int boy) {
        return pattern.hasBoy(boy) ? search.stepsHome(now, boy) : UNKNOWN;
    }

    public int reach(int boy, int n) {
        if (!pattern.hasBoy(boy)) {
            return UNKNOWN;
        }
        return n < 0 || n > MOST_STEPS ? BAD : search.cellsWithin(now, boy, n);
    }

    public int again(int boy, int way) {
        if (!pattern.hasBoy(boy)) {
            return UNKNOWN;
        }
        return isWay(way) ? stepsRound(boy, way) : BAD;
    }

    public int alike(int cell) {
        if (!pattern.hasCell(cell)) {
            return UNKNOWN;
        }
        int bits = 0;
        for (int other = 0; other < pattern.cells; other++) {
            if (looksLike(cell, other)) {
                bits |= 1 << other;
            }
        }
        return bits;
    }

    public int calls(int what) {
        if (what == 0) {
            return cover.cellsToCall(now);
        }
        return what == 1 ? Integer.bitCount(cover.cellsToCall(now)) : BAD;
    }

    public int match(int what) {
        if (what != 0 && what != 1) {
            return BAD;
        }
        int best = 0;
        int fewest = unlikeRows(0);
        for (int drop = 1; drop < pattern.h; drop++) {
            int unlike = unlikeRows(drop);
            if (unlike < fewest) {
                fewest = unlike;
                best = drop;
            }
        }
        return what == 0 ? best : fewest;
    }

    public int judge(int n, long row) {
        if (n < 1 || n > MOST_DOINGS || row < 0 || row >= THOUSANDS[n]) {
            return BAD;
        }
        trial.become(now);
        for (int i = 0; i < n; i++) {
            int doing = (int) (row / THOUSANDS[n - 1 - i] % 1000);
            if (!holds(doing / 100, doing / 10 % 10, doing % 10)) {
                return i;
            }
        }
        return NONE;
    }

    public int share(int boy, boolean upper) {
        if (!pattern.hasBoy(boy)) {
            return UNKNOWN;
        }
        return told(search.sixtiethsShared(now, boy), SIXTIETHS, upper);
    }

    // ---- where one stands

    public int see(int x, int y, int kind) {
        if (!inSight(x) || !inSight(y) || kind < 0 || kind >= KINDS_OF_CELL) {
            return BAD;
        }
        return sight.add(x, y, kind) ? sight.count : FULL;
    }

    public int unsee() {
        int was = sight.count;
        sight.count = 0;
        return was;
    }

    public int stands() {
        int bits = 0;
        for (int cell = 0; cell < pattern.cells; cell++) {
            if (sight.isSoFrom(now, cell)) {
                bits |= 1 << cell;
            }
        }
        return bits;
    }

    // ---- rests, chances

    public int rests(int one, int other, int what) {
        if (!pattern.hasBoy(one) || !pattern.hasBoy(other)) {
            return UNKNOWN;
        }
        if (one == other || (what != 0 && what != 1)) {
            return BAD;
        }
        goingsOfOne.lookAt(now, one);
        goingsOfOther.lookAt(now, other);
        return what == 0 ? countOfRests() : firstRest();
    }

    public int strays(int boy, int n, boolean upper) {
        if (!pattern.hasBoy(boy)) {
            return UNKNOWN;
        }
        if (n < 1 || n > MOST_STRAYS) {
            return BAD;
        }
        return told(walksHome(now, boy, now.places[boy], n), POWERS_OF_FOUR[n], upper);
    }

    public long seed(long v) {
        long was = theSeed;
        theSeed = v;
        return was;
    }

    public int nights(int m) {
        if (m < 1 || m > MOST_NIGHTS) {
            return BAD;
        }
        trial.become(now);
        int together = 0;
        for (int i = 0; i < m; i++) {
            theSeed = theSeed * 6364136223846793005L + 1442695040888963407L;
            happens((int) ((theSeed >>> 33) % 40));
            together += trial.countNotHome();
        }
        return together;
    }

    // ---- slots

    public int keep(int slot) {
        if (slot < 0 || slot >= SLOTS) {
            return UNKNOWN;
        }
        slots[slot].become(now);
        kept[slot] = true;
        return now.countNotHome();
    }

    public int goOn(int slot) {
        if (slot < 0 || slot >= SLOTS) {
            return UNKNOWN;
        }
        if (!kept[slot]) {
            return LATE;
        }
        now.become(slots[slot]);
        acts.forgetAll();
        return now.countNotHome();
    }

    // ---- what the calls above are made of

    private static boolean isWay(int way) {
        return way >= 0 && way < WAYS;
    }

    private static boolean inSight(int steps) {
        return steps >= -SIGHT && steps <= SIGHT;
    }

    private static int cellOf(int place) {
        return place % MOST_CELLS;
    }

    private static int widthOf(int place) {
        return place / A_WIDTH % SPAN;
    }

    private static int heightOf(int place) {
        return place / A_HEIGHT;
    }

    /** One side of the fraction above / below in least terms; below is more than 0. */
    private static int told(int above, int below, boolean upper) {
        int divisor = commonDivisor(above, below);
        if (divisor < 1) {
            return 0;
        }
        return upper ? above / divisor : below / divisor;
    }

    private static int commonDivisor(int one, int other) {
        int greater = one;
        int less = other;
        // An int's Euclid ends within some fifty rounds.
        for (int i = 0; i < 64 && less != 0; i++) {
            int rest = greater % less;
            greater = less;
            less = rest;
        }
        return greater;
    }

    private int stepsRound(int boy, int way) {
        int start = cellOf(now.places[boy]);
        boolean straight = pattern.goesStraight(boy);
        int cell = start;
        for (int steps = 1; steps <= MOST_CELLS; steps++) {
            cell = pattern.cellBeside(cell, way, straight);
            if (!now.canBe(boy, cell)) {
                return NONE;
            }
            if (cell == start) {
                return steps;
            }
        }
        return NONE;
    }

    private boolean looksLike(int cell, int other) {
        if (now.kindAt(cell) != now.kindAt(other)) {
            return false;
        }
        for (int way = 0; way < WAYS; way++) {
            int kind = now.kindAt(pattern.cellBeside(cell, way, false));
            if (kind != now.kindAt(pattern.cellBeside(other, way, false))) {
                return false;
            }
        }
        return true;
    }

    private int unlikeRows(int drop) {
        int unlike = 0;
        for (int row = 0; row < pattern.h; row++) {
            int last = row * pattern.w + pattern.w - 1;
            int first = pattern.rowOn(row, drop) * pattern.w;
            if (now.kindAt(last) != now.kindAt(first)) {
                unlike++;
            }
        }
        return unlike;
    }

    /** Does in the trial what three figures tell, and answers whether that can be. */
    private boolean holds(int figure, int second, int third) {
        int cell = second * 10 + third;
        switch (figure) {
            case 1:
                return pattern.hasBoy(second) && isWay(third) && trial.goes(second, third);
            case 2:
                if (!pattern.hasCell(cell)) {
                    return false;
                }
                trial.bringHome(cell);
                return true;
            case 3:
                if (!pattern.hasCell(cell) || trial.kindAt(cell) != THORN) {
                    return false;
                }
                trial.cutAway(cell);
                return true;
            case 4:
                return second == 0 && pattern.hasBoy(third) && trial.isHome(third);
            default:
                return false;
        }
    }

    /** Does in the trial what a lot (0 .. 39) of a night tells, if it can be. */
    private void happens(int lot) {
        if (lot < 20) {
            int boy = lot / WAYS;
            if (pattern.hasBoy(boy)) {
                trial.goes(boy, lot % WAYS);
            }
        } else if (pattern.hasCell(lot - 20)) {
            trial.bringHome(lot - 20);
        }
    }

    private boolean isRest(int way, int otherWay) {
        int has = goingsOfOne.worth(way, goingsOfOther, otherWay);
        int otherHas = goingsOfOther.worth(otherWay, goingsOfOne, way);
        for (int instead = 0; instead < WAYS; instead++) {
            if (goingsOfOne.worth(instead, goingsOfOther, otherWay) > has
                    || goingsOfOther.worth(instead, goingsOfOne, way) > otherHas) {
                return false;
            }
        }
        return true;
    }

    private int countOfRests() {
        int count = 0;
        for (int way = 0; way < WAYS; way++) {
            for (int otherWay = 0; otherWay < WAYS; otherWay++) {
                if (isRest(way, otherWay)) {
                    count++;
                }
            }
        }
        return count;
    }

    private int firstRest() {
        for (int way = 0; way < WAYS; way++) {
            for (int otherWay = 0; otherWay < WAYS; otherWay++) {
                if (isRest(way, otherWay)) {
                    return 10 * way + otherWay;
                }
            }
        }
        return NONE;
    }

    /** Of all rows of so many ways from a place on: how many end at home. */
    private static int walksHome(Scene scene, int boy, int place, int left) {
        if (left <= 0) {
            return place == scene.homePlace(boy) ? 1 : 0;
        }
        int count = 0;
        for (int way = 0; way < WAYS; way++) {
            int next = scene.placeOn(boy, place, way);
            count += walksHome(scene, boy, next == NOWHERE ? place : next, left - 1);
        }
        return count;
    }

    /** THE TEXT, and how far it reads as a PAPER. */
    private static final class Text {
        private static final int HEAD = 4, BYTES_OF_A_BOY = 3;

        final int[] bytes = new int[MOST_BYTES];
        int length;

        boolean add(int letter) {
            if (length >= MOST_BYTES) {
                return false;
            }
            bytes[length] = letter;
            length++;
            return true;
        }

        int firstFault() {
            for (int i = 0; i < length && i < MOST_BYTES; i++) {
                if (!fits(i)) {
                    return i;
                }
            }
            return isWhole() ? NONE : length;
        }

        /** Whether a byte can stand where it is, if all those ahead of it can. */
        boolean fits(int i) {
            int letter = bytes[i];
            switch (i) {
                case 0: return letter == 'W';
                case 1: return letter >= '2' && letter <= '5';
                case 2: return letter >= '2' && letter <= '4';
                case 3: return letter >= '0' && letter < bytes[2];
                default: break;
            }
            int behindCells = i - HEAD - cells();
            if (behindCells < 0) {
                return kindOf(letter) != NONE;
            }
            return behindCells < MOST_BOYS * BYTES_OF_A_BOY
                    && fitsInBoy(behindCells % BYTES_OF_A_BOY, letter);
        }

        boolean fitsInBoy(int part, int letter) {
            if (part == 0) {
                // Where all are thorns no cell can come behind the P.
                return letter == 'P' && hasFreeCell();
            }
            return part == 1 ? isFreeCell(letter - 'a') : letter >= '0' && letter <= '3';
        }

        boolean isFreeCell(int cell) {
            return cell >= 0 && cell < cells() && cell < MOST_CELLS
                    && kindOf(bytes[HEAD + cell]) != THORN;
        }

        boolean hasFreeCell() {
            for (int cell = 0; cell < MOST_CELLS; cell++) {
                if (isFreeCell(cell)) {
                    return true;
                }
            }
            return false;
        }

        boolean isWhole() {
            if (length < HEAD) {
                return false;
            }
            int behindCells = length - HEAD - cells();
            return behindCells >= 0 && behindCells % BYTES_OF_A_BOY == 0;
        }

        int figure(int i) {
            return bytes[i] - '0';
        }

        int cells() {
            return (bytes[1] - '0') * (bytes[2] - '0');
        }

        int boys() {
            return (length - HEAD - cells()) / BYTES_OF_A_BOY;
        }

        int kindOfCell(int cell) {
            return kindOf(bytes[HEAD + cell]);
        }

        int homeOfBoy(int boy) {
            return bytes[HEAD + cells() + boy * BYTES_OF_A_BOY + 1] - 'a';
        }

        int kindOfBoy(int boy) {
            return figure(HEAD + cells() + boy * BYTES_OF_A_BOY + 2);
        }

        static int kindOf(int letter) {
            switch (letter) {
                case 'l': return LEAF;
                case 't': return THORN;
                case 'b': return BIRD;
                case 'r': return ROSE;
                default: return NONE;
            }
        }
    }

    /** What is printed: the cells, how they lie beside one another, and the boys' homes and kinds. */
    private static final class Pattern {
        int w = 2;
        int h = 2;
        int drop;
        int cells;
        int boys;
        final int[] kinds = new int[MOST_CELLS];
        final int[] homes = new int[MOST_BOYS];
        final int[] boyKinds = new int[MOST_BOYS];
        final int[] besidePlain = new int[MOST_CELLS * WAYS];
        final int[] besideStraight = new int[MOST_CELLS * WAYS];
        // By how many widths or heights one is further on.
        final int[] sheets = new int[MOST_CELLS * WAYS];

        Pattern() {
            layOut();
        }

        /** Takes a text that has no fault. */
        void readFrom(Text text) {
            w = text.figure(1);
            h = text.figure(2);
            drop = text.figure(3);
            boys = Math.min(text.boys(), MOST_BOYS);
            layOut();
            for (int cell = 0; cell < cells; cell++) {
                kinds[cell] = text.kindOfCell(cell);
            }
            for (int boy = 0; boy < boys; boy++) {
                homes[boy] = text.homeOfBoy(boy);
                boyKinds[boy] = text.kindOfBoy(boy);
            }
        }

        void layOut() {
            cells = Math.min(w * h, MOST_CELLS);
            for (int row = 0; row < h; row++) {
                for (int column = 0; column < w; column++) {
                    layRow(row, column);
                    layColumn(row, column);
                }
            }
        }

        void layRow(int row, int column) {
            int cell = row * w + column;
            if (column > 0) {
                lay(cell, LEFT, cell - 1, cell - 1, 0);
            } else {
                lay(cell, LEFT, rowOn(row, h - drop) * w + w - 1, cell + w - 1, -1);
            }
            if (column < w - 1) {
                lay(cell, RIGHT, cell + 1, cell + 1, 0);
            } else {
                lay(cell, RIGHT, rowOn(row, drop) * w, row * w, 1);
            }
        }

        void layColumn(int row, int column) {
            int cell = row * w + column;
            int above = rowOn(row, h - 1) * w + column;
            int below = rowOn(row, 1) * w + column;
            lay(cell, UP, above, above, row == 0 ? -1 : 0);
            lay(cell, DOWN, below, below, row == h - 1 ? 1 : 0);
        }

        void lay(int cell, int way, int plain, int straight, int sheet) {
            int at = cell * WAYS + way;
            if (at < 0 || at >= MOST_CELLS * WAYS) {
                return;
            }
            besidePlain[at] = plain;
            besideStraight[at] = straight;
            sheets[at] = sheet;
        }

        /** The row that is so many (0 .. h) more, by h. */
        int rowOn(int row, int more) {
            int on = row + more;
            return on >= h ? on - h : on;
        }

        boolean hasCell(int cell) {
            return cell >= 0 && cell < cells;
        }

        boolean hasBoy(int boy) {
            return boy >= 0 && boy < boys;
        }

        boolean goesStraight(int boy) {
            return boyKinds[boy] == PYM;
        }

        int cellBeside(int cell, int way, boolean straight) {
            int at = cell * WAYS + way;
            return straight ? besideStraight[at] : besidePlain[at];
        }

        /** The place by a way, or NOWHERE beyond the last width or height. */
        int placeBeside(int place, int way, boolean straight) {
            int cell = cellOf(place);
            int sheet = sheets[cell * WAYS + way];
            boolean sideways = way == LEFT || way == RIGHT;
            int number = (sideways ? widthOf(place) : heightOf(place)) + sheet;
            if (number < 0 || number >= SPAN) {
                return NOWHERE;
            }
            int moved = place + sheet * (sideways ? A_WIDTH : A_HEIGHT);
            return moved - cell + cellBeside(cell, way, straight);
        }
    }

    /** Where the boys are, and what is cut: all that acts change. */
    private static final class Scene {
        final Pattern pattern;
        final int[] places = new int[MOST_BOYS];
        int cutCells;

        Scene(Pattern pattern) {
            this.pattern = pattern;
        }

        void begin() {
            cutCells = 0;
            for (int boy = 0; boy < pattern.boys; boy++) {
                places[boy] = homePlace(boy);
            }
        }

        void become(Scene other) {
            cutCells = other.cutCells;
            System.arraycopy(other.places, 0, places, 0, MOST_BOYS);
        }

        int kindAt(int cell) {
            return (cutCells >> cell & 1) != 0 ? LEAF : pattern.kinds[cell];
        }

        int cellsOfKind(int kind) {
            int bits = 0;
            for (int cell = 0; cell < pattern.cells; cell++) {
                if (kindAt(cell) == kind) {
                    bits |= 1 << cell;
                }
            }
            return bits;
        }

        void cutAway(int cell) {
            cutCells |= 1 << cell;
        }

        boolean canBe(int boy, int cell) {
            int kind = kindAt(cell);
            switch (pattern.boyKinds[boy]) {
                case SMALL: return true;
                case SHY: return kind != THORN && kind != BIRD;
                default: return kind != THORN;
            }
        }

        /** Where a boy is one step on from a place; NOWHERE, if it can not go. */
        int placeOn(int boy, int place, int way) {
            int next = pattern.placeBeside(place, way, pattern.goesStraight(boy));
            return next != NOWHERE && canBe(boy, cellOf(next)) ? next : NOWHERE;
        }

        boolean goes(int boy, int way) {
            int next = placeOn(boy, places[boy], way);
            if (next == NOWHERE) {
                return false;
            }
            places[boy] = next;
            return true;
        }

        int waysOpen(int boy) {
            int bits = 0;
            for (int way = 0; way < WAYS; way++) {
                if (placeOn(boy, places[boy], way) != NOWHERE) {
                    bits |= 1 << way;
                }
            }
            return bits;
        }

        int homePlace(int boy) {
            return HOME_SHEET + pattern.homes[boy];
        }

        boolean isHome(int boy) {
            return places[boy] == homePlace(boy);
        }

        int whoIsHome() {
            int bits = 0;
            for (int boy = 0; boy < pattern.boys; boy++) {
                if (isHome(boy)) {
                    bits |= 1 << boy;
                }
            }
            return bits;
        }

        int countNotHome() {
            return pattern.boys - Integer.bitCount(whoIsHome());
        }

        // A call is heard by cells: the last width's join is heard over as any other.
        boolean doesHear(int boy, int called) {
            int cell = cellOf(places[boy]);
            if (cell == called) {
                return true;
            }
            boolean straight = pattern.goesStraight(boy);
            for (int way = 0; way < WAYS; way++) {
                if (pattern.cellBeside(cell, way, straight) == called) {
                    return true;
                }
            }
            return false;
        }

        /** All who hear are home: how many were not. */
        int bringHome(int called) {
            int came = 0;
            for (int boy = 0; boy < pattern.boys; boy++) {
                if (!isHome(boy) && doesHear(boy, called)) {
                    places[boy] = homePlace(boy);
                    came++;
                }
            }
            return came;
        }
    }

    /** The scenes as they were ahead of the last acts, in a ring. */
    private static final class Acts {
        final Scene[] before = new Scene[MOST_ACTS];
        int next;
        int count;

        Acts(Pattern pattern) {
            for (int i = 0; i < MOST_ACTS; i++) {
                before[i] = new Scene(pattern);
            }
        }

        void remember(Scene scene) {
            before[next].become(scene);
            next = next + 1 < MOST_ACTS ? next + 1 : 0;
            count = Math.min(count + 1, MOST_ACTS);
        }

        boolean takeBack(Scene scene) {
            if (count == 0) {
                return false;
            }
            count--;
            next = next > 0 ? next - 1 : MOST_ACTS - 1;
            scene.become(before[next]);
            return true;
        }

        void forgetAll() {
            count = 0;
        }
    }

    /** Goes out from a boy's place on, step by step, to all that it can come to. */
    private static final class Search {
        // Steps to a place and 1; 0: it was not come to.
        final int[] rounds = new int[PLACES];
        final int[] found = new int[PLACES];
        int count;
        final int[] reaches = new int[MOST_BOYS];

        void spread(Scene scene, int boy, int most) {
            clear();
            put(scene.places[boy], 1);
            for (int i = 0; i < count && i < PLACES; i++) {
                int place = found[i];
                int round = rounds[place];
                if (round > most) {
                    return;
                }
                for (int way = 0; way < WAYS; way++) {
                    int next = scene.placeOn(boy, place, way);
                    if (next != NOWHERE && rounds[next] == 0) {
                        put(next, round + 1);
                    }
                }
            }
        }

        void clear() {
            for (int i = 0; i < count && i < PLACES; i++) {
                rounds[found[i]] = 0;
            }
            count = 0;
        }

        void put(int place, int round) {
            if (count < PLACES) {
                found[count] = place;
                count++;
                rounds[place] = round;
            }
        }

        int stepsHome(Scene scene, int boy) {
            spread(scene, boy, PLACES);
            int round = rounds[scene.homePlace(boy)];
            return round == 0 ? NONE : round - 1;
        }

        int cellsWithin(Scene scene, int boy, int n) {
            spread(scene, boy, n);
            int bits = 0;
            for (int i = 0; i < count && i < PLACES; i++) {
                bits |= 1 << cellOf(found[i]);
            }
            return bits;
        }

        /**
         * In the mean over all orders a cell falls to each boy who reaches it in like parts, as each
         * of them is as likely the first: no order has to be gone through.
         */
        int sixtiethsShared(Scene scene, int boy) {
            int boys = scene.pattern.boys;
            for (int i = 0; i < boys; i++) {
                reaches[i] = cellsWithin(scene, i, 2);
            }
            int sum = 0;
            for (int cell = 0; cell < MOST_CELLS; cell++) {
                int sharers = 0;
                for (int i = 0; i < boys; i++) {
                    sharers += reaches[i] >> cell & 1;
                }
                if (sharers > 0 && (reaches[boy] >> cell & 1) != 0) {
                    sum += SIXTIETHS / sharers;
                }
            }
            return sum;
        }
    }

    /** Finds the fewest cells at which to call, so that all who are out hear. */
    private static final class Cover {
        private static final int ONE_MORE = 1 << MOST_CELLS, SETS_OF_BOYS = 1 << MOST_BOYS;
        // More than all cells together make.
        private static final int NOT_FOUND = 1 << 30;

        // For each set of boys the best cells by which just they hear: how many, then which (bits).
        final int[] best = new int[SETS_OF_BOYS];

        int cellsToCall(Scene scene) {
            int home = scene.whoIsHome();
            int all = (1 << scene.pattern.boys) - 1;
            for (int set = 0; set < SETS_OF_BOYS; set++) {
                best[set] = NOT_FOUND;
            }
            best[home & all] = 0;
            // Cells are taken by rising bits, so the best set stays best when a cell is added to it.
            for (int cell = 0; cell < scene.pattern.cells; cell++) {
                addCell(cell, hearers(scene, cell));
            }
            return best[all] & ONE_MORE - 1;
        }

        void addCell(int cell, int hearers) {
            for (int set = 0; set < SETS_OF_BOYS; set++) {
                if (best[set] != NOT_FOUND) {
                    int with = set | hearers;
                    best[with] = Math.min(best[with], best[set] + ONE_MORE + (1 << cell));
                }
            }
        }

        int hearers(Scene scene, int cell) {
            int bits = 0;
            for (int boy = 0; boy < scene.pattern.boys; boy++) {
                if (scene.doesHear(boy, cell)) {
                    bits |= 1 << boy;
                }
            }
            return bits;
        }
    }

    /** What is seen from where a plain one stands. */
    private static final class Sight {
        final int[] xs = new int[MOST_SEEN];
        final int[] ys = new int[MOST_SEEN];
        final int[] kinds = new int[MOST_SEEN];
        int count;

        boolean add(int x, int y, int kind) {
            if (count >= MOST_SEEN) {
                return false;
            }
            xs[count] = x;
            ys[count] = y;
            kinds[count] = kind;
            count++;
            return true;
        }

        boolean isSoFrom(Scene scene, int cell) {
            for (int i = 0; i < count && i < MOST_SEEN; i++) {
                int beside = cellOff(scene.pattern, cell, xs[i], RIGHT, LEFT);
                int there = cellOff(scene.pattern, beside, ys[i], DOWN, UP);
                if (scene.kindAt(there) != kinds[i]) {
                    return false;
                }
            }
            return true;
        }

        static int cellOff(Pattern pattern, int cell, int steps, int onward, int back) {
            int there = cell;
            int many = Math.abs(steps);
            for (int i = 0; i < many && i < SIGHT; i++) {
                there = pattern.cellBeside(there, steps < 0 ? back : onward, false);
            }
            return there;
        }
    }

    /** What comes of each way that a boy may go. */
    private static final class Goings {
        private static final int TOGETHER = 3;

        final int[] cells = new int[WAYS];
        final int[] alone = new int[WAYS];

        void lookAt(Scene scene, int boy) {
            int place = scene.places[boy];
            for (int way = 0; way < WAYS; way++) {
                int next = scene.placeOn(boy, place, way);
                int cell = cellOf(next == NOWHERE ? place : next);
                cells[way] = cell;
                alone[way] = (next == NOWHERE ? 0 : 1) + (scene.kindAt(cell) == ROSE ? 1 : 0);
            }
        }

        int worth(int way, Goings other, int otherWay) {
            return alone[way] + (cells[way] == other.cells[otherWay] ? TOGETHER : 0);
        }
    }
}
