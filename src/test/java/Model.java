import java.util.ArrayDeque;
import java.util.ArrayList;
import java.util.Arrays;
import java.util.Collections;
import java.util.HashMap;
import java.util.List;
import java.util.Map;

/**
 * The document word by word, slow and without any of the class's short cuts: orders are gone through
 * one by one, sets of cells too, a fault is looked for by what could come behind.
 */
final class Model {
    static final int UNKNOWN = -1, BAD = -2, LATE = -3, FULL = -4, NONE = -9;

    record Place(int row, int column, int width, int height) { }

    record Now(List<Place> places, String cells) { }

    private String text = "";
    private int w = 2, h = 2, d = 0;
    private String cells = "llll";
    private List<Place> homes = new ArrayList<>();
    private String kinds = "";
    private List<Place> places = new ArrayList<>();
    private List<Now> acts = new ArrayList<>();
    private final Map<Integer, Now> slots = new HashMap<>();
    private final List<int[]> seen = new ArrayList<>();
    private long seed = 0;

    int write(int letter) {
        if (letter < 0 || letter > 255) return BAD;
        if (text.length() == 48) return FULL;
        text += (char) letter;
        return text.length();
    }

    int wipe() {
        int was = text.length();
        text = "";
        return was;
    }

    static boolean isPaper(String t) {
        if (!t.matches("W[2-5][2-4][0-3][ltbr]*(P[a-t][0-3]){0,5}")) return false;
        int n = (t.charAt(1) - '0') * (t.charAt(2) - '0');
        if (t.charAt(3) >= t.charAt(2)) return false;
        int boysFrom = t.indexOf('P') < 0 ? t.length() : t.indexOf('P');
        if (boysFrom != 4 + n) return false;
        for (int i = boysFrom; i < t.length(); i += 3) {
            int cell = t.charAt(i + 1) - 'a';
            if (cell >= n || t.charAt(4 + cell) == 't') return false;
        }
        return true;
    }

    /** Whether anything that came behind it could make it a paper. */
    static boolean canGoOn(String start) {
        List<String> heads = start.length() < 4
            ? List.of("W220".substring(start.length()), "W540".substring(start.length())) : List.of("");
        for (String head : heads) {
            for (int leaves = 0; leaves <= 20; leaves++) {
                String t = start + head + "l".repeat(leaves);
                if (isPaper(t) || isPaper(t + "0")) return true;
                for (char c = 'a'; c <= 't'; c++) {
                    if (isPaper(t + c + "0")) return true;
                }
            }
        }
        return false;
    }

    int fault() {
        if (isPaper(text)) return NONE;
        for (int i = 1; i <= text.length(); i++) {
            if (!canGoOn(text.substring(0, i))) return i - 1;
        }
        return text.length();
    }

    int paper() {
        if (!isPaper(text)) return LATE;
        w = text.charAt(1) - '0';
        h = text.charAt(2) - '0';
        d = text.charAt(3) - '0';
        cells = text.substring(4, 4 + w * h);
        homes = new ArrayList<>();
        kinds = "";
        for (int i = 4 + w * h; i < text.length(); i += 3) {
            int cell = text.charAt(i + 1) - 'a';
            homes.add(new Place(cell / w, cell % w, 0, 0));
            kinds += text.charAt(i + 2);
        }
        places = new ArrayList<>(homes);
        acts.clear();
        slots.clear();
        return 100 * w + 10 * h + homes.size();
    }

    private int bitsOf(char kind) {
        int bits = 0;
        for (int i = 0; i < cells.length(); i++) {
            if (cells.charAt(i) == kind) bits += 1 << i;
        }
        return bits;
    }

    private boolean noBoy(int boy) {
        return boy < 0 || boy >= homes.size();
    }

    private boolean noCell(int cell) {
        return cell < 0 || cell >= w * h;
    }

    private static boolean noWay(int way) {
        return way < 0 || way > 3;
    }

    private boolean home(int boy) {
        return places.get(boy).equals(homes.get(boy));
    }

    private int out() {
        int out = 0;
        for (int boy = 0; boy < homes.size(); boy++) out += home(boy) ? 0 : 1;
        return out;
    }

    int about(int what) {
        int atHome = 0;
        for (int boy = 0; boy < homes.size(); boy++) atHome += home(boy) ? 1 << boy : 0;
        int[] all = {w, h, d, homes.size(), bitsOf('t'), bitsOf('b'), bitsOf('r'), atHome, acts.size(), seen.size(),
            text.length()};
        return what < 0 || what >= all.length ? BAD : all[what];
    }

    int cell(int cell) {
        return noCell(cell) ? UNKNOWN : "ltbr".indexOf(cells.charAt(cell));
    }

    private Place endless(Place p, int way, boolean straight) {
        int row = p.row, column = p.column, width = p.width, height = p.height;
        if (way == 2) row--;
        if (way == 3) row++;
        if (row < 0 || row == h) height += row < 0 ? -1 : 1;
        if (way == 0) column--;
        if (way == 1) column++;
        if (column < 0 || column == w) {
            width += column < 0 ? -1 : 1;
            if (!straight) row += column < 0 ? -d : d;
        }
        return new Place(Math.floorMod(row, h), Math.floorMod(column, w), width, height);
    }

    private int number(Place p) {
        return p.row * w + p.column;
    }

    private boolean canBe(int boy, Place p) {
        char cell = cells.charAt(number(p));
        char kind = kinds.charAt(boy);
        return kind == '1' || cell != 't' && !(kind == '2' && cell == 'b');
    }

    /** Null: it can not go. */
    private Place on(int boy, Place p, int way) {
        Place q = endless(p, way, kinds.charAt(boy) == '3');
        boolean there = Math.abs(q.width) <= 3 && Math.abs(q.height) <= 3;
        return there && canBe(boy, q) ? q : null;
    }

    int beside(int cell, int way, boolean straight) {
        if (noCell(cell)) return UNKNOWN;
        return noWay(way) ? BAD : number(endless(new Place(cell / w, cell % w, 0, 0), way, straight));
    }

    int boy(int boy, int what) {
        if (noBoy(boy)) return UNKNOWN;
        Place p = places.get(boy);
        int ways = 0;
        for (int way = 0; way < 4; way++) ways += on(boy, p, way) == null ? 0 : 1 << way;
        int[] all = {number(p), kinds.charAt(boy) - '0', number(homes.get(boy)), p.width + 3, p.height + 3, ways};
        return what < 0 || what >= all.length ? BAD : all[what];
    }

    private Now now() {
        return new Now(new ArrayList<>(places), cells);
    }

    private void be(Now was) {
        places = new ArrayList<>(was.places);
        cells = was.cells;
    }

    private void act(Now before) {
        acts.add(before);
        if (acts.size() > 14) acts.remove(0);
    }

    int step(int boy, int way) {
        if (noBoy(boy)) return UNKNOWN;
        if (noWay(way)) return BAD;
        Place p = on(boy, places.get(boy), way);
        if (p == null) return LATE;
        act(now());
        places.set(boy, p);
        return number(p);
    }

    private boolean hears(int boy, int cell) {
        Place p = places.get(boy);
        boolean hears = number(p) == cell;
        for (int way = 0; way < 4; way++) hears |= number(endless(p, way, kinds.charAt(boy) == '3')) == cell;
        return hears;
    }

    int call(int cell) {
        if (noCell(cell)) return UNKNOWN;
        act(now());
        int were = out();
        for (int boy = 0; boy < homes.size(); boy++) {
            if (hears(boy, cell)) places.set(boy, homes.get(boy));
        }
        return were - out();
    }

    int cut(int cell) {
        if (noCell(cell)) return UNKNOWN;
        if (cells.charAt(cell) != 't') return LATE;
        act(now());
        cells = cells.substring(0, cell) + "l" + cells.substring(cell + 1);
        return Integer.bitCount(bitsOf('t'));
    }

    int undo() {
        if (acts.isEmpty()) return LATE;
        be(acts.remove(acts.size() - 1));
        return acts.size();
    }

    private Map<Place, Integer> allSteps(int boy) {
        Map<Place, Integer> steps = new HashMap<>();
        ArrayDeque<Place> open = new ArrayDeque<>();
        steps.put(places.get(boy), 0);
        open.add(places.get(boy));
        while (!open.isEmpty()) {
            Place p = open.remove();
            for (int way = 0; way < 4; way++) {
                Place q = on(boy, p, way);
                if (q != null && steps.putIfAbsent(q, steps.get(p) + 1) == null) open.add(q);
            }
        }
        return steps;
    }

    int far(int boy) {
        return noBoy(boy) ? UNKNOWN : allSteps(boy).getOrDefault(homes.get(boy), NONE);
    }

    int reach(int boy, int n) {
        if (noBoy(boy)) return UNKNOWN;
        if (n < 0 || n > 9) return BAD;
        int bits = 0;
        for (Map.Entry<Place, Integer> e : allSteps(boy).entrySet()) {
            if (e.getValue() <= n) bits |= 1 << number(e.getKey());
        }
        return bits;
    }

    int again(int boy, int way) {
        if (noBoy(boy)) return UNKNOWN;
        if (noWay(way)) return BAD;
        Place p = places.get(boy);
        if (!canBe(boy, p)) return NONE;
        int start = number(p);
        for (int steps = 1; ; steps++) {
            p = endless(p, way, kinds.charAt(boy) == '3');
            if (!canBe(boy, p)) return NONE;
            if (number(p) == start) return steps;
        }
    }

    private String look(int cell) {
        StringBuilder look = new StringBuilder().append(cells.charAt(cell));
        for (int way = 0; way < 4; way++) look.append(cells.charAt(beside(cell, way, false)));
        return look.toString();
    }

    int alike(int cell) {
        if (noCell(cell)) return UNKNOWN;
        int bits = 0;
        for (int c = 0; c < w * h; c++) bits += look(c).equals(look(cell)) ? 1 << c : 0;
        return bits;
    }

    private boolean allHear(int bits) {
        for (int boy = 0; boy < homes.size(); boy++) {
            boolean hears = home(boy);
            for (int cell = 0; cell < w * h; cell++) hears |= (bits >> cell & 1) == 1 && hears(boy, cell);
            if (!hears) return false;
        }
        return true;
    }

    int calls(int what) {
        if (what != 0 && what != 1) return BAD;
        if (allHear(0)) return 0;
        for (int many = 1; ; many++) {
            int bits = (1 << many) - 1;
            while (bits < 1 << w * h) {
                if (allHear(bits)) return what == 0 ? bits : many;
                // the next number with as many bits
                int low = bits & -bits;
                int ripple = bits + low;
                bits = ripple | ((bits ^ ripple) / low >> 2);
            }
        }
    }

    int match(int what) {
        if (what != 0 && what != 1) return BAD;
        int[] unlike = new int[h];
        for (int drop = 0; drop < h; drop++) {
            for (int row = 0; row < h; row++) {
                if (cells.charAt(row * w + w - 1) != cells.charAt((row + drop) % h * w)) unlike[drop]++;
            }
        }
        int fewest = Arrays.stream(unlike).min().getAsInt();
        for (int drop = 0; ; drop++) {
            if (unlike[drop] == fewest) return what == 0 ? drop : fewest;
        }
    }

    int judge(int n, long row) {
        if (n < 1 || n > 4 || row < 0 || Long.toString(row).length() > 3 * n) return BAD;
        String figures = String.format("%0" + 3 * n + "d", row);
        Now was = now();
        List<Now> had = acts;
        acts = new ArrayList<>();
        int judged = NONE;
        for (int i = 0; i < n && judged == NONE; i++) {
            int two = figures.charAt(3 * i + 1) - '0', three = figures.charAt(3 * i + 2) - '0';
            boolean can = switch (figures.charAt(3 * i)) {
                case '1' -> step(two, three) >= 0;
                case '2' -> call(10 * two + three) >= 0;
                case '3' -> cut(10 * two + three) >= 0;
                case '4' -> two == 0 && !noBoy(three) && home(three);
                default -> false;
            };
            if (!can) judged = i;
        }
        be(was);
        acts = had;
        return judged;
    }

    private static long told(long above, long below, boolean upper) {
        for (long k = below; k > 1; k--) {
            if (above % k == 0 && below % k == 0) return upper ? above / k : below / k;
        }
        return upper ? above : below;
    }

    private void orders(List<Integer> rest, int reached, int boy, long[] sums) {
        if (rest.isEmpty()) sums[1]++;
        for (int i = 0; i < rest.size(); i++) {
            List<Integer> others = new ArrayList<>(rest);
            int comes = others.remove(i);
            int then = reached | reach(comes, 2);
            long before = sums[1];
            orders(others, then, boy, sums);
            if (comes == boy) sums[0] += (sums[1] - before) * (Integer.bitCount(then) - Integer.bitCount(reached));
        }
    }

    int share(int boy, boolean upper) {
        if (noBoy(boy)) return UNKNOWN;
        List<Integer> all = new ArrayList<>();
        for (int i = 0; i < homes.size(); i++) all.add(i);
        long[] sums = new long[2];
        orders(Collections.unmodifiableList(all), 0, boy, sums);
        return (int) told(sums[0], sums[1], upper);
    }

    int see(int x, int y, int kind) {
        if (Math.max(Math.abs((long) x), Math.abs((long) y)) > 4 || kind < 0 || kind > 3) return BAD;
        if (seen.size() == 6) return FULL;
        seen.add(new int[] {x, y, kind});
        return seen.size();
    }

    int unsee() {
        int was = seen.size();
        seen.clear();
        return was;
    }

    int stands() {
        int bits = 0;
        for (int cell = 0; cell < w * h; cell++) {
            boolean may = true;
            for (int[] s : seen) {
                Place p = new Place(cell / w, cell % w, 0, 0);
                for (int i = 0; i < Math.abs(s[0]); i++) p = endless(p, s[0] < 0 ? 0 : 1, false);
                for (int i = 0; i < Math.abs(s[1]); i++) p = endless(p, s[1] < 0 ? 2 : 3, false);
                may &= cells.charAt(number(p)) == "ltbr".charAt(s[2]);
            }
            bits += may ? 1 << cell : 0;
        }
        return bits;
    }

    private int[] haveBoth(int one, int way, int other, int otherWay) {
        Place p = on(one, places.get(one), way), q = on(other, places.get(other), otherWay);
        int[] have = {p == null ? 0 : 1, q == null ? 0 : 1};
        int c = number(p == null ? places.get(one) : p), e = number(q == null ? places.get(other) : q);
        if (c == e) {
            have[0] += 3;
            have[1] += 3;
        }
        if (cells.charAt(c) == 'r') have[0]++;
        if (cells.charAt(e) == 'r') have[1]++;
        return have;
    }

    int rests(int one, int other, int what) {
        if (noBoy(one) || noBoy(other)) return UNKNOWN;
        if (one == other || what != 0 && what != 1) return BAD;
        List<Integer> found = new ArrayList<>();
        for (int pair = 0; pair < 16; pair++) {
            int a = pair / 4, b = pair % 4;
            int[] have = haveBoth(one, a, other, b);
            boolean rest = true;
            for (int else_ = 0; else_ < 4; else_++) {
                rest &= haveBoth(one, else_, other, b)[0] <= have[0] && haveBoth(one, a, other, else_)[1] <= have[1];
            }
            if (rest) found.add(10 * a + b);
        }
        if (what == 0) return found.size();
        return found.isEmpty() ? NONE : found.get(0);
    }

    int strays(int boy, int n, boolean upper) {
        if (noBoy(boy)) return UNKNOWN;
        if (n < 1 || n > 5) return BAD;
        Map<Place, Long> many = Map.of(places.get(boy), 1L);
        long all = 1;
        for (int i = 0; i < n; i++, all *= 4) {
            Map<Place, Long> next = new HashMap<>();
            for (Map.Entry<Place, Long> e : many.entrySet()) {
                for (int way = 0; way < 4; way++) {
                    Place p = on(boy, e.getKey(), way);
                    next.merge(p == null ? e.getKey() : p, e.getValue(), Long::sum);
                }
            }
            many = next;
        }
        return (int) told(many.getOrDefault(homes.get(boy), 0L), all, upper);
    }

    long seed(long v) {
        long was = seed;
        seed = v;
        return was;
    }

    int nights(int m) {
        if (m < 1 || m > 30) return BAD;
        Now was = now();
        List<Now> had = acts;
        acts = new ArrayList<>();
        int together = 0;
        for (int i = 0; i < m; i++) {
            seed = seed * 6364136223846793005L + 1442695040888963407L;
            int lot = (int) ((seed >> 33 & 0x7fffffffL) % 40);
            if (lot < 20) step(lot / 4, lot % 4);
            else call(lot - 20);
            together += out();
        }
        be(was);
        acts = had;
        return together;
    }

    int keep(int slot) {
        if (slot < 0 || slot > 1) return UNKNOWN;
        slots.put(slot, now());
        return out();
    }

    int goOn(int slot) {
        if (slot < 0 || slot > 1) return UNKNOWN;
        if (!slots.containsKey(slot)) return LATE;
        be(slots.get(slot));
        acts.clear();
        return out();
    }
}
