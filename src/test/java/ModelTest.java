import java.util.Random;

/** Long runs of calls on the class and on the model: each answer must be the same (promises 1 to 30). */
public final class ModelTest {
    private static final int RUNS = 150, CALLS = 512, MOST_AT_ONCE = 64;
    private static final Check check = new Check("ModelTest");

    private final Random random;
    private final PaperTrellis x = new PaperTrellis();
    private final Model model = new Model();
    private int made;

    private ModelTest(int run) {
        random = new Random(run);
    }

    public static void main(String[] args) {
        for (int run = 0; run < RUNS; run++) {
            new ModelTest(run).go();
        }
        check.end();
    }

    private void go() {
        if (random.nextInt(8) > 0) {
            newPaper();
        }
        while (made + MOST_AT_ONCE <= CALLS) {
            switch (random.nextInt(60)) {
                case 0 -> newPaper();
                case 1 -> brokenText();
                default -> anyCall();
            }
        }
    }

    private void due(String call, long got, long want) {
        made++;
        check.due("call " + made + ", " + call, got, want);
    }

    private void writeAll(String text) {
        due("wipe", x.wipe(), model.wipe());
        for (int i = 0; i < text.length(); i++) {
            int letter = text.charAt(i);
            due("write " + letter, x.write(letter), model.write(letter));
        }
    }

    private String randomText() {
        int w = 2 + random.nextInt(4), h = 2 + random.nextInt(3);
        String kinds = new String[] {"lllllltbr", "ltbr", "tttl", "lr", "bbbl", "t"}[random.nextInt(20) == 0 ? 5 : random.nextInt(5)];
        StringBuilder text = new StringBuilder("W").append(w).append(h).append(random.nextInt(h));
        for (int i = 0; i < w * h; i++) {
            text.append(kinds.charAt(random.nextInt(kinds.length())));
        }
        int boys = random.nextInt(6);
        for (int i = 0, tries = 0; i < boys && tries < 100; tries++) {
            int cell = random.nextInt(w * h);
            if (text.charAt(4 + cell) != 't') {
                text.append('P').append((char) ('a' + cell)).append(random.nextInt(4));
                i++;
            }
        }
        return text.toString();
    }

    private void newPaper() {
        String text = randomText();
        writeAll(text);
        due("fault of " + text, x.fault(), model.fault());
        due("paper of " + text, x.paper(), model.paper());
    }

    private void brokenText() {
        StringBuilder text = new StringBuilder(randomText());
        for (int i = random.nextInt(3); i >= 0; i--) {
            int at = random.nextInt(text.length());
            char letter = "Wltbr0123456Pabct".charAt(random.nextInt(17));
            switch (random.nextInt(4)) {
                case 0 -> text.setLength(Math.max(1, at));
                case 1 -> text.insert(at, letter);
                case 2 -> text.append(letter);
                default -> text.setCharAt(at, letter);
            }
        }
        writeAll(text.toString());
        due("fault of " + text, x.fault(), model.fault());
        due("paper of " + text, x.paper(), model.paper());
    }

    private int number(int below) {
        return switch (random.nextInt(40)) {
            case 0 -> -1;
            case 1 -> below;
            case 2 -> random.nextInt();
            default -> random.nextInt(below);
        };
    }

    private int aBoy() {
        return number(Math.max(1, model.about(3)));
    }

    private int aCell() {
        return number(model.about(0) * model.about(1));
    }

    private void anyCall() {
        // A boy who goes on one way comes to the last width and height.
        if (random.nextInt(12) == 0) {
            int boy = aBoy(), way = number(4);
            for (int i = random.nextInt(30); i > 0; i--) {
                due("step " + boy + " " + way, x.step(boy, way), model.step(boy, way));
            }
        }
        switch (random.nextInt(8)) {
            case 0 -> looking();
            case 1, 2, 3 -> acting();
            case 4 -> going();
            case 5 -> judging();
            case 6 -> seeing();
            default -> chancing();
        }
    }

    private void looking() {
        int cell = aCell(), way = number(4), boy = aBoy(), what = number(11), of = number(6);
        boolean straight = random.nextBoolean();
        due("about " + what, x.about(what), model.about(what));
        due("cell " + cell, x.cell(cell), model.cell(cell));
        due("beside " + cell + " " + way, x.beside(cell, way, straight), model.beside(cell, way, straight));
        due("boy " + boy + " " + of, x.boy(boy, of), model.boy(boy, of));
        due("alike " + cell, x.alike(cell), model.alike(cell));
        due("match " + of, x.match(of % 3), model.match(of % 3));
    }

    private void acting() {
        int cell = aCell(), way = number(4), boy = aBoy(), slot = number(2);
        switch (random.nextInt(12)) {
            case 0 -> due("call " + cell, x.call(cell), model.call(cell));
            case 1 -> due("cut " + cell, x.cut(cell), model.cut(cell));
            case 2 -> due("undo", x.undo(), model.undo());
            case 3 -> due("keep " + slot, x.keep(slot), model.keep(slot));
            case 4 -> due("goOn " + slot, x.goOn(slot), model.goOn(slot));
            default -> due("step " + boy + " " + way, x.step(boy, way), model.step(boy, way));
        }
    }

    private void going() {
        int boy = aBoy(), way = number(4), n = number(10), what = number(2);
        boolean upper = random.nextBoolean();
        due("far " + boy, x.far(boy), model.far(boy));
        due("reach " + boy + " " + n, x.reach(boy, n), model.reach(boy, n));
        due("again " + boy + " " + way, x.again(boy, way), model.again(boy, way));
        due("calls " + what, x.calls(what), model.calls(what));
        due("share " + boy, x.share(boy, upper), model.share(boy, upper));
    }

    private long aDoing() {
        return switch (random.nextInt(7)) {
            case 0 -> random.nextInt(1000);
            case 1, 2 -> 100 + 10 * random.nextInt(6) + random.nextInt(5);
            case 3 -> 200 + random.nextInt(21);
            case 4 -> 300 + random.nextInt(21);
            default -> 400 + random.nextInt(6);
        };
    }

    private void judging() {
        int n = 1 + random.nextInt(4);
        long row = 0;
        for (int i = 0; i < n; i++) {
            row = row * 1000 + aDoing();
        }
        int told = random.nextInt(10) == 0 ? number(6) : n;
        due("judge " + told + " " + row, x.judge(told, row), model.judge(told, row));
        due("judge " + -row, x.judge(n, -row), model.judge(n, -row));
    }

    private void seeing() {
        int from = aCell();
        int cell = from < 0 ? 0 : from % (model.about(0) * model.about(1));
        int steps = number(5), kind = number(4), much = random.nextInt(3);
        for (int i = 0; i < much; i++) {
            int y = number(9) - 4, x4 = steps - (random.nextBoolean() ? 4 : 0);
            int like = random.nextInt(3) == 0 ? kind : model.cell(cell);
            due("see " + x4 + " " + y + " " + like, x.see(x4, y, like), model.see(x4, y, like));
            due("stands", x.stands(), model.stands());
        }
        if (random.nextInt(3) == 0) {
            due("unsee", x.unsee(), model.unsee());
        }
    }

    private void chancing() {
        int one = aBoy(), other = aBoy(), what = number(2), n = 1 + number(5), m = 1 + number(30);
        boolean upper = random.nextBoolean();
        due("rests " + one + " " + other + " " + what, x.rests(one, other, what), model.rests(one, other, what));
        due("strays " + one + " " + n, x.strays(one, n, upper), model.strays(one, n, upper));
        if (random.nextInt(3) == 0) {
            long v = random.nextLong();
            due("seed " + v, x.seed(v), model.seed(v));
        }
        due("nights " + m, x.nights(m), model.nights(m));
    }
}
