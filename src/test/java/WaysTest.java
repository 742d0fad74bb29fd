/** Promises 27 to 32: ways of a TIN. */
public final class WaysTest {
    public static void main(String[] args) {
        way();
        wayOfSeveral();
        reachAndNext();
        round();
        roundOfSeveral();
        gone();
        Check.end();
    }

    /** Seven people, p to v; t is TRUE of all but p and s. */
    private static TinFen seven(String lanes) {
        return Check.of("trait t worth 1;person p;person q is t;person r is t;person s;person u is t;person v is t;"
            + "person w is t;tin x of t on p;" + lanes);
    }

    private static void row(String what, TinFen x, int person, int... due) {
        Check.fine(what, x, x.way(0, person), due.length - 1);
        for (int k = 0; k < due.length; k++) {
            Check.fine(what + " at " + k, x, x.wayAt(0, person, k), due[k]);
        }
        Check.refused(what + " behind", x, x.wayAt(0, person, due.length), 8);
        Check.refused(what + " ahead", x, x.wayAt(0, person, -1), 8);
    }

    private static void roundRow(String what, TinFen x, int... due) {
        Check.fine(what, x, x.round(0), due.length);
        for (int k = 0; k < due.length; k++) {
            Check.fine(what + " at " + k, x, x.roundAt(0, k), due[k]);
        }
        Check.refused(what + " behind", x, x.roundAt(0, due.length), 8);
        Check.refused(what + " ahead", x, x.roundAt(0, -1), 8);
        Check.refused(what + " far ahead", x, x.roundAt(0, Integer.MIN_VALUE), 8);
    }

    private static void way() {
        TinFen x = seven("lane p q;lane q r;lane r s;lane s u;lane r v;lane v w;");
        row("he has it, though not TRUE", x, 0, 0);
        row("one", x, 1, 0, 1);
        row("four", x, 6, 0, 1, 2, 5, 6);
        Check.refused("not TRUE of him", x, x.way(0, 3), 8);
        Check.refused("only by one of whom it is not TRUE", x, x.way(0, 4), 8);
        Check.refused("wayAt without a WAY", x, x.wayAt(0, 4, 0), 8);
        Check.refused("tin 1", x, x.way(1, 0), 2);
        Check.refused("tin -1", x, x.way(-1, 0), 2);
        Check.refused("person 7", x, x.way(0, 7), 2);
        Check.refused("person -1", x, x.way(0, -1), 2);
        Check.refused("wayAt tin 1", x, x.wayAt(1, 0, 9), 2);
        Check.refused("wayAt person 7", x, x.wayAt(0, 7, 9), 2);
    }

    private static void wayOfSeveral() {
        TinFen x = seven("lane p w;lane p q;lane w u;lane q v;lane v r;lane u r;lane q u;");
        row("first by PEOPLE", x, 4, 0, 1, 4);
        row("first by PEOPLE, three", x, 2, 0, 1, 4, 2);
        x.lane(0, 5);
        row("the shorter one, though later", x, 2, 0, 5, 2);
        TinFen chain = seven("lane p w;lane w v;lane v u;lane u r;lane r q;");
        row("all in a row", chain, 1, 0, 6, 5, 4, 2, 1);
    }

    private static void reachAndNext() {
        TinFen x = seven("lane p q;lane p s;lane q r;lane r s;lane s u;lane r v;lane v w;");
        Check.fine("next", x, x.next(0), 2);
        Check.fine("reach", x, x.reach(0), 1 + 2 + 4 + 32 + 64);
        x.pass(0, 1);
        Check.fine("next of q", x, x.next(0), 4);
        Check.fine("not back to p", x, x.reach(0), 2 + 4 + 32 + 64);
        x.teach(0, 0, true);
        Check.fine("next, p too", x, x.next(0), 5);
        Check.fine("p again", x, x.reach(0), 1 + 2 + 4 + 32 + 64);
        TinFen alone = seven("");
        Check.fine("alone, next", alone, alone.next(0), 0);
        Check.fine("alone, reach", alone, alone.reach(0), 1);
        Check.refused("reach of 1", x, x.reach(1), 2);
        Check.refused("reach of -1", x, x.reach(-1), 2);
        Check.refused("next of 1", x, x.next(1), 2);
        Check.refused("next of -1", x, x.next(-1), 2);
    }

    private static void round() {
        roundRow("alone", seven(""), 0);
        roundRow("a star: nobody twice", seven("lane p q;lane q r;lane q u;lane q v;"), 0, 1, 2);
        roundRow("the longer branch", seven("lane p q;lane q r;lane q v;lane v w;"), 0, 1, 5, 6);
        roundRow("not by s", seven("lane p q;lane q s;lane s r;"), 0, 1);
        TinFen x = seven("");
        Check.refused("tin 1", x, x.round(1), 2);
        Check.refused("tin -1", x, x.round(-1), 2);
        Check.refused("roundAt tin 1", x, x.roundAt(1, 0), 2);
        Check.refused("roundAt tin -1", x, x.roundAt(-1, 9), 2);
    }

    private static void roundOfSeveral() {
        String ring = "lane q r;lane r u;lane u v;lane v w;lane w q;";
        roundRow("first of two round a ring", seven("lane p u;" + ring), 0, 4, 2, 1, 6, 5);
        roundRow("first way into a ring", seven("lane p w;lane p r;" + ring), 0, 2, 1, 6, 5, 4);
        TinFen x = Check.of("trait t worth 1;person p is t;person q is t;person r is t;person s is t;person u is t;"
            + "person v is t;person w is t;tin x of t on s;"
            + "lane p q;lane q r;lane r s;lane s u;lane u v;lane v w;lane w p;");
        roundRow("all seven", x, 3, 2, 1, 0, 6, 5, 4);
    }

    private static void gone() {
        TinFen x = seven("lane p q;");
        x.drop(0);
        Check.refused("way", x, x.way(0, 0), 9);
        Check.refused("way without a WAY", x, x.way(0, 4), 9);
        Check.refused("wayAt", x, x.wayAt(0, 0, 9), 9);
        Check.refused("reach", x, x.reach(0), 9);
        Check.refused("next", x, x.next(0), 9);
        Check.refused("round", x, x.round(0), 9);
        Check.refused("roundAt", x, x.roundAt(0, 9), 9);
        Check.refused("no such PERSON comes first", x, x.way(0, 7), 2);
    }
}
