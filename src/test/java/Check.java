/** What the tests share: texts onto the tape, answers that are due, the end with an exit code. */
final class Check {
    /** Four people, three traits, four tins, two of lead: the FEN that most tests begin with. */
    static final String ANN = "odds 4;trait hand worth 5;trait ear worth 2;trait wit worth 9;"
        + "person ann is hand ear;person ben is ear wit;person cyd is hand wit;person dot is ear;"
        + "lane ann ben;lane ben cyd;lane cyd dot;lane ann cyd;"
        + "tin a of hand on ben;tin b of ear on ann;tin c of wit on ann lead;tin d of ear on dot lead;";

    private static int wrong = 0;
    private static int asked = 0;
    /** The test that runs now, ahead of what is printed. */
    private static String within = "";

    private Check() {
    }

    static void due(String what, long got, long want) {
        asked++;
        if (got != want) {
            wrong++;
            System.out.println(within + what + " answered " + got + ", due is " + want);
        }
    }

    static void nameTest(String name) {
        within = name + ": ";
    }

    static int wrongSoFar() {
        return wrong;
    }

    static void same(String what, String got, String want) {
        asked++;
        if (!got.equals(want)) {
            wrong++;
            System.out.println(within + what + " is\n  " + got + "\n  due is\n  " + want);
        }
    }

    static void due(String what, boolean got, boolean want) {
        due(what, got ? 1 : 0, want ? 1 : 0);
    }

    /** The call answered so, with STATUS 0. */
    static void fine(String what, TinFen x, long got, long want) {
        due(what, got, want);
        due(what + ", status", x.status(), 0);
    }

    static void fine(String what, TinFen x, boolean got) {
        fine(what, x, got ? 1 : 0, 1);
    }

    /** The call answered NONE with this STATUS. */
    static void refused(String what, TinFen x, long got, int status) {
        due(what, got, TinFen.NONE);
        due(what + ", status", x.status(), status);
    }

    static void refused(String what, TinFen x, boolean got, int status) {
        due(what, got, false);
        due(what + ", status", x.status(), status);
    }

    static void fraction(String what, TinFen x, boolean got, long top, long bottom) {
        fine(what, x, got);
        due(what + ", top", x.top(), top);
        due(what + ", bottom", x.bottom(), bottom);
    }

    /** The text comes to the tape, with blanks up to twenty bytes. */
    static void feedText(TinFen x, String text) {
        for (int at = 0; at < text.length(); at += 20) {
            x.feed(four(text, at), four(text, at + 4), four(text, at + 8), four(text, at + 12), four(text, at + 16));
        }
    }

    private static int four(String text, int at) {
        int all = 0;
        for (int i = at; i < at + 4; i++) {
            all = all << 8 | (i < text.length() ? text.charAt(i) & 255 : 32);
        }
        return all;
    }

    static int fen(TinFen x, String text) {
        feedText(x, text);
        return x.fen(text.length());
    }

    static int years(TinFen x, String text) {
        feedText(x, text);
        return x.years(text.length());
    }

    static TinFen ann() {
        return of(ANN);
    }

    static TinFen of(String text) {
        TinFen x = new TinFen();
        due("a FEN that is taken, status", fen(x, text) >= 0 ? x.status() : TinFen.NONE, 0);
        return x;
    }

    static void fault(String what, TinFen x, int got, int kind, int place) {
        refused(what, x, got, 10);
        due(what + ", fault(0)", x.fault(0), kind);
        due(what + ", fault(1)", x.fault(1), place);
    }

    static void fenFault(String text, int kind, int place) {
        TinFen x = new TinFen();
        fault("fen " + text, x, fen(x, text), kind, place);
    }

    static void yearsFault(String text, int kind, int place) {
        TinFen x = ann();
        fault("years " + text, x, years(x, text), kind, place);
    }

    static String times(String text, int many) {
        StringBuilder all = new StringBuilder();
        for (int i = 0; i < many; i++) {
            all.append(text);
        }
        return all.toString();
    }

    static void end() {
        System.out.println(asked + " answers, " + wrong + " wrong");
        if (wrong != 0) {
            System.exit(1);
        }
    }
}
