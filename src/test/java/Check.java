/** Counts the answers of one test that are not the ones that are due. */
final class Check {
    private final String test;
    private int asked;
    private int wrong;

    Check(String test) {
        this.test = test;
    }

    void due(String call, long got, long want) {
        asked++;
        if (got != want) {
            wrong++;
            System.out.println(test + ": " + call + " answered " + got + ", due is " + want);
        }
    }

    void end() {
        System.out.println(test + ": " + asked + " answers, " + wrong + " not as due");
        if (wrong != 0 || asked == 0) {
            System.exit(1);
        }
    }

    static void write(PaperTrellis x, String text) {
        x.wipe();
        for (int i = 0; i < text.length(); i++) {
            x.write(text.charAt(i));
        }
    }

    /** A paper of leaves alone, without boys. */
    static String leaves(int w, int h, int drop) {
        return "W" + w + h + drop + "l".repeat(w * h);
    }

    /** The part of a text that tells a boy. */
    static String boy(int cell, int kind) {
        return "P" + (char) ('a' + cell) + kind;
    }

    /** A boy steps by each of the ways, none of which may be refused. */
    static void go(PaperTrellis x, int boy, String ways) {
        for (int i = 0; i < ways.length(); i++) {
            if (x.step(boy, ways.charAt(i) - '0') < 0) {
                throw new IllegalStateException("boy " + boy + " can not go by way " + i + " of " + ways);
            }
        }
    }

    /** A new object whose paper is the text. */
    static PaperTrellis of(String text) {
        PaperTrellis x = new PaperTrellis();
        write(x, text);
        if (x.paper() < 0) {
            throw new IllegalStateException(text + " is no paper, by fault " + x.fault());
        }
        return x;
    }
}
