import java.util.Arrays;

/**
 * All that an object can be made to tell, first by what changes nothing, then by undoing, going on and
 * filling up: two objects of which one was refused something tell the same.
 */
final class Tale {
    private final PaperTrellis x;
    private long[] answers = new long[512];
    private int many;

    private Tale(PaperTrellis x) {
        this.x = x;
    }

    static long[] of(PaperTrellis x) {
        Tale tale = new Tale(x);
        tale.looks();
        tale.boysTell();
        tale.goes();
        return Arrays.copyOf(tale.answers, tale.many);
    }

    private void put(long answer) {
        if (many == answers.length) {
            throw new IllegalStateException("an object is used for 512 calls at most");
        }
        answers[many++] = answer;
    }

    private void looks() {
        for (int what = 0; what <= 10; what++) {
            put(x.about(what));
        }
        put(x.fault());
        put(x.stands());
        for (int what = 0; what <= 1; what++) {
            put(x.calls(what));
            put(x.match(what));
        }
        for (int cell = 0; cell < 6; cell++) {
            put(x.cell(cell));
            put(x.alike(cell));
            put(x.beside(cell, 1, false));
        }
    }

    private void boysTell() {
        for (int boy = 0; boy < 3; boy++) {
            for (int what = 0; what < 6; what++) {
                put(x.boy(boy, what));
            }
            for (int way = 0; way < 4; way++) {
                put(x.again(boy, way));
            }
            put(x.far(boy));
            put(x.reach(boy, 1));
            put(x.share(boy, true));
            put(x.share(boy, false));
            put(x.strays(boy, 3, true));
            put(x.rests(boy, 2 - boy, 0));
        }
    }

    private void places() {
        put(x.about(4));
        put(x.about(7));
        for (int boy = 0; boy < 3; boy++) {
            put(x.boy(boy, 0) + 100 * x.boy(boy, 3) + 1000 * x.boy(boy, 4));
        }
    }

    private void goes() {
        put(x.nights(7));
        put(x.seed(0));
        for (int i = 0; i < 15; i++) {
            put(x.undo());
            places();
        }
        for (int slot = 0; slot < 2; slot++) {
            put(x.goOn(slot));
            places();
        }
        for (int i = 0; i < 7; i++) {
            put(x.see(0, 0, 0));
            put(x.stands());
        }
        put(x.unsee());
        put(x.write('P'));
        put(x.wipe());
    }
}
