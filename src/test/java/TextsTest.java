/** Promises 9, 10, 12 to 17: the tape, FENS and their FAULTS, what is told of a FEN. */
public final class TextsTest {
    public static void main(String[] args) {
        feed();
        fenTaken();
        fenRefused();
        fenInPlaceOfOthers();
        cutShort();
        fault();
        faultsOfTokens();
        faultsOfPlaces();
        faultsOfNames();
        faultsOfNumbersAndLimits();
        many();
        worthAndPerson();
        tin();
        copyGot();
        Check.end();
    }

    private static void feed() {
        TinFen x = new TinFen();
        x.worth(0);
        for (int i = 1; i <= 45; i++) {
            Check.due("feed " + i, x.feed(0x20202020, 0x20202020, 0x20202020, 0x20202020, 0x20202020), 20 * i);
        }
        Check.due("feed above 900", x.feed(0, 0, 0, 0, 0), -1);
        Check.due("feed has no STATUS", x.status(), 2);
        Check.fine("900 blanks", x, x.fen(900), 0);
        // "lead", "!" and so on: the highest byte stands first
        x.feed(0x6c656164, 0x3b202020, 0x21000000, 0, 0);
        Check.fault("lead", x, x.fen(20), 2, 0);
        x.feed(0x20202020, 0x20202021, 0, 0, 0);
        Check.fault("!", x, x.fen(8), 1, 7);
    }

    private static void fenTaken() {
        TinFen x = new TinFen();
        Check.fine("fen(0), nothing on the tape", x, x.fen(0), 0);
        Check.fine("ann", x, Check.fen(x, Check.ANN), 4);
        Check.fine("tins", x, x.many(3), 4);
        Check.due("the tape is empty", x.feed(0, 0, 0, 0, 0), 20);
        Check.fine("fen(0), something on the tape", x, x.fen(0), 0);
        Check.fine("nobody", x, x.many(1), 0);
        Check.fine("ODDS 8 without", x, x.many(4), 8);
        Check.due("empty behind fen(0)", x.feed(0, 0, 0, 0, 0), 20);
        TinFen y = new TinFen();
        Check.fine("without blanks", y, Check.fen(y, "trait\na worth\n 7;person b is;person c;tin d of a on c;odds0016;"), 1);
        Check.fine("worth", y, y.worth(0), 7);
        Check.fine("odds", y, y.many(4), 16);
        Check.fine("is nothing", y, y.person(0, 0), 0);
        Check.fine("on c", y, y.tin(0, 1), 1);
        Check.fine("a NAME of eight letters", y, Check.fen(y, "trait abcdefgh worth 99;person odd;"), 0);
        Check.fine("no blanks but where two WORDS meet", y, Check.fen(y, "\n trait a worth99;person p is a;tin t of a on p lead;\n"), 1);
        Check.fine("of LEAD", y, y.tin(0, 2), 1);
    }

    private static void fenRefused() {
        TinFen x = Check.ann();
        x.pass(2, 1);
        Check.years(x, "any;");
        Check.refused("fen(1) of none", x, x.fen(1), 5);
        Check.refused("fen(-1)", x, x.fen(-1), 5);
        x.feed(0x20202020, 0x20202020, 0x20202020, 0x20202020, 0x20202020);
        Check.refused("fen(21)", x, x.fen(21), 5);
        Check.due("the tape stays", x.feed(0, 0, 0, 0, 0), 40);
        Check.fault("a byte 0", x, x.fen(40), 1, 20);
        Check.due("the tape is empty", x.feed(0x20202020, 0, 0, 0, 0), 20);
        Check.fine("the old one stays", x, x.many(5), 1);
        Check.fine("GOT stays", x, x.person(0, 3), 9);
        Check.fine("YEARS stay", x, x.live(0), 1);
        Check.fine("only the first bytes", x, x.fen(4), 0);
        Check.refused("no YEARS", x, x.live(0), 8);
        Check.fen(x, Check.ANN);
        Check.fine("nobody GOT", x, x.person(0, 3), 0);
        Check.fine("no PASSES", x, x.many(5), 0);
        Check.fine("HELD by one", x, x.tin(2, 3), 1);
        Check.fine("none GONE", x, x.many(6), 0);
    }

    /** Nothing of the FENS ahead is left, taken or not, however many there were. */
    private static void fenInPlaceOfOthers() {
        TinFen x = Check.ann();
        for (int i = 0; i < 4; i++) {
            x.pass(2, 1);
            x.bite(3);
            x.bite(2);
            for (int k = 0; k <= i; k++) {
                Check.fine("plain", x, Check.fen(x, "trait t worth 1;person p;person q is t;tin x of t on p;"
                    + "tin y of t on p;tin z of t on p;"), 3);
            }
            int[] due = {1, 2, 0, 3, 8, 0, 0, 0, 0, 3};
            for (int what = 0; what < 10; what++) {
                Check.fine("many " + what, x, x.many(what), due[what]);
            }
            Check.fine("they do not MEET", x, x.person(0, 1), 0);
            Check.fine("PASSED", x, x.tin(2, 4), 0);
            Check.fine("GOT", x, x.person(0, 3), 0);
            Check.fine("TRUE of none", x, x.person(0, 0), 0);
            x.lane(0, 1);
            x.pass(2, 1);
            Check.fen(x, i % 2 == 0 ? "odds 3;lane" : Check.ANN + "tin");
            Check.fine("ann", x, Check.fen(x, Check.ANN), 4);
        }
    }

    /** What stands behind the first n bytes does not count. */
    private static void cutShort() {
        TinFen x = new TinFen();
        Check.feedText(x, "person annodds 16");
        Check.fault("person ann", x, x.fen(10), 2, 10);
        Check.feedText(x, "odds 16;");
        Check.fault("odds 1", x, x.fen(6), 2, 6);
        Check.feedText(x, "person ann;odds 16;");
        Check.fine("person ann;", x, x.fen(11), 0);
        Check.fine("no odds", x, x.many(4), 8);
        Check.fine("odds 0", x, Check.fen(x, "odds 0;"), 0);
        Check.fine("0", x, x.many(4), 0);
        Check.fine("odds 16, worth 0", x, Check.fen(x, "odds 16;trait t worth 0;"), 0);
        Check.fine("16", x, x.many(4), 16);
    }

    private static void fault() {
        TinFen x = new TinFen();
        x.fen(1);
        Check.due("behind STATUS 5", x.fault(0), -1);
        Check.fen(x, "odds 99;");
        Check.due("kind", x.fault(0), 4);
        Check.due("place", x.fault(1), 5);
        Check.due("2", x.fault(2), -1);
        Check.due("-1", x.fault(-1), -1);
        Check.due("no STATUS", x.status(), 10);
        x.years(301);
        Check.due("STATUS 5 leaves it", x.fault(0), 4);
        Check.fen(x, "odds 9;");
        Check.due("0 without", x.fault(0), 0);
        Check.due("NONE without", x.fault(1), -1);
        Check.years(x, "go;");
        Check.due("of years, too", x.fault(0), 2);
        Check.due("of years, at 0", x.fault(1), 0);
        x.many(0);
        Check.due("stays", x.fault(0), 2);
    }

    private static void faultsOfTokens() {
        Check.fenFault("!", 1, 0);
        Check.fenFault("  Odds 4;", 1, 2);
        Check.fenFault("trait a\tworth 4;", 1, 7);
        Check.fenFault("odds 12345;", 1, 5);
        Check.fenFault("odds 00004;", 1, 5);
        Check.fenFault("12345", 1, 0);
        Check.fenFault("odds 4,", 1, 6);
        Check.fenFault("odds " + (char) 233, 1, 5);
        Check.fenFault("odds 4; {", 1, 8);
        Check.fenFault("traiT", 2, 0);
        Check.fenFault("odds 4x;", 2, 6);
    }

    private static void faultsOfPlaces() {
        Check.fenFault("1234", 2, 0);
        Check.fenFault(";", 2, 0);
        Check.fenFault("pass", 2, 0);
        Check.fenFault("is", 2, 0);
        Check.fenFault("abcdefghi", 2, 0);
        Check.fenFault("odds", 2, 4);
        Check.fenFault("odds   ", 2, 7);
        Check.fenFault("odds x;", 2, 5);
        Check.fenFault("odds 4", 2, 6);
        Check.fenFault("odds 4 4;", 2, 7);
        Check.fenFault("odds 4;;", 2, 7);
        Check.fenFault("trait worth worth 4;", 2, 6);
        Check.fenFault("trait abcdefghi worth 4;", 2, 6);
        Check.fenFault("trait a 4;", 2, 8);
        Check.fenFault("trait a worth x;", 2, 14);
        Check.fenFault("trait 7 worth 4;", 2, 6);
        Check.fenFault("person a on;", 2, 9);
        Check.fenFault("person a is is;", 2, 12);
        Check.fenFault("person a is abcdefghi;", 2, 12);
        Check.fenFault("person a b;", 2, 9);
        Check.fenFault("person a;lane a;", 2, 15);
        Check.fenFault("person a;person b;lane a b c;", 2, 27);
        Check.fenFault("person a;person b;lane a b", 2, 26);
        Check.fenFault("person a", 2, 8);
        Check.fenFault("trait a worth 1", 2, 15);
        Check.fenFault("trait t worth 1;person p;tin x of t on p", 2, 40);
        Check.fenFault("trait t worth 1;person p;tin x of t on p lead", 2, 45);
        Check.fenFault("trait t worth 1;person p;tin x on p;", 2, 31);
        Check.fenFault("trait t worth 1;person p;tin x of t of p;", 2, 36);
        Check.fenFault("trait t worth 1;person p;tin x of t on p sound;", 2, 41);
        Check.fenFault("trait t worth 1;person p;tin x of t on p lead lead;", 2, 46);
        Check.fenFault("trait t worth 1 < 2;", 2, 16);
        String[] words = {"odds", "trait", "worth", "person", "is", "lane", "tin", "of", "on", "lead", "pass", "bite",
            "learn", "lose", "any", "when", "got", "gone", "loop", "end", "stop"};
        for (String word : words) {
            Check.fenFault("person " + word + ";", 2, 7);
            Check.of("person " + word + "x;");
        }
    }

    private static void faultsOfNames() {
        Check.fenFault("trait a worth 1;trait a worth 1;", 3, 22);
        Check.fenFault("trait a worth 1;person a;", 3, 23);
        Check.fenFault("person a;trait a worth 1;", 3, 15);
        Check.fenFault("trait t worth 1;person p;tin x of t on p;person x;", 3, 48);
        Check.fenFault("trait t worth 1;person p;tin p of t on p;", 3, 29);
        Check.fenFault("trait t worth 1;person p;tin t of t on p;", 3, 29);
        Check.fenFault("trait t worth 1;person p;tin x of t on p;tin x of t on p;", 3, 45);
        Check.fenFault("person a is b;trait b worth 1;", 3, 12);
        Check.fenFault("person a is a;", 3, 12);
        Check.fenFault("person a;lane b a;", 3, 14);
        Check.fenFault("person a;lane a b;", 3, 16);
        Check.fenFault("trait t worth 1;person p;tin x of p on p;", 3, 34);
        Check.fenFault("trait t worth 1;person p;tin x of t on t;", 3, 39);
        Check.fenFault("trait t worth 1;person p;tin x of x on p;", 3, 34);
        Check.fenFault("trait ab worth 1;person p is a;", 3, 29);
        Check.fenFault("trait a worth 1;person p is aa;", 3, 28);
        Check.of("trait a worth 1;trait aa worth 1;trait aaaaaaaa worth 1;trait aaaaaaa worth 1;");
    }

    private static void faultsOfNumbersAndLimits() {
        Check.fenFault("odds 17;", 4, 5);
        Check.fenFault("odds 9999", 4, 5);
        Check.fenFault("trait a worth 100;", 4, 14);
        Check.fenFault("odds 4;odds 99;", 5, 7);
        Check.fenFault("odds 4;trait a worth 0099;odds", 5, 26);
        Check.fenFault("trait t worth 1;person p is t t;", 5, 30);
        Check.fenFault("person p;lane p p;", 5, 16);
        String traits = "trait a worth 1;trait b worth 1;trait c worth 1;trait d worth 1;trait e worth 1;trait f worth 1;";
        Check.fenFault(traits + " trait a", 6, traits.length() + 1);
        String people = "person g;person h;person i;person j;person k;person l;person m is a b c d e f;";
        Check.fenFault(traits + people + "person", 6, traits.length() + people.length());
        String lanes = Check.times("lane g h;", 12);
        Check.fenFault(traits + people + lanes + "lane g g", 6, (traits + people + lanes).length());
        StringBuilder tins = new StringBuilder();
        for (int i = 0; i < 9; i++) {
            tins.append("tin n").append((char) ('a' + i)).append(" of a on g;");
        }
        String full = traits + people + lanes + tins;
        Check.fenFault(full + "tin n of", 6, full.length());
        TinFen x = Check.of(full);
        Check.fine("traits", x, x.many(0), 6);
        Check.fine("people", x, x.many(1), 7);
        Check.fine("lanes, told again", x, x.many(2), 12);
        Check.fine("tins", x, x.many(3), 9);
        Check.fine("meets", x, x.person(0, 1), 2);
        Check.fine("all TRUE", x, x.person(6, 0), 63);
    }

    private static void many() {
        TinFen x = Check.ann();
        x.pass(2, 1);
        x.drop(0);
        x.bite(3);
        x.strike(2, 0, true);
        int[] due = {3, 4, 4, 5, 4, 1, 9, 8, 28, 20};
        for (int what = 0; what < 10; what++) {
            Check.fine("many " + what, x, x.many(what), due[what]);
        }
        Check.refused("many -1", x, x.many(-1), 5);
        Check.refused("many 10", x, x.many(10), 5);
    }

    private static void worthAndPerson() {
        TinFen x = Check.ann();
        Check.fine("worth 0", x, x.worth(0), 5);
        Check.fine("worth 2", x, x.worth(2), 9);
        Check.refused("worth 3", x, x.worth(3), 2);
        Check.refused("worth -1", x, x.worth(-1), 2);
        x.pass(1, 1);
        int[][] due = {{3, 6, 4, 2, 9}, {6, 5, 3, 0, 7}, {5, 11, 0, 0, 0}, {2, 4, 8, 0, 2}};
        for (int i = 0; i < 4; i++) {
            for (int what = 0; what < 5; what++) {
                Check.fine("person " + i + " " + what, x, x.person(i, what), due[i][what]);
            }
            Check.refused("person 5", x, x.person(i, 5), 5);
            Check.refused("person -1", x, x.person(i, -1), 5);
        }
        Check.refused("person 4", x, x.person(4, 9), 2);
        Check.refused("person -1", x, x.person(-1, 0), 2);
    }

    private static void tin() {
        TinFen x = Check.ann();
        x.pass(2, 1);
        x.pass(2, 2);
        int[][] due = {{0, 1, 0, 2, 0}, {1, 0, 0, 1, 0}, {2, 2, 1, 7, 2}, {1, 3, 1, 8, 0}};
        for (int i = 0; i < 4; i++) {
            for (int what = 0; what < 5; what++) {
                Check.fine("tin " + i + " " + what, x, x.tin(i, what), due[i][what]);
            }
            Check.refused("tin 5", x, x.tin(i, 5), 5);
            Check.refused("tin -1", x, x.tin(i, -1), 5);
        }
        x.bite(2);
        x.drop(0);
        Check.refused("FOUND: nobody has it", x, x.tin(2, 1), 8);
        Check.refused("thrown away: nobody has it", x, x.tin(0, 1), 8);
        Check.fine("HELD still", x, x.tin(2, 3), 7);
        Check.fine("of LEAD still", x, x.tin(2, 2), 1);
        Check.refused("GONE, what 5", x, x.tin(2, 5), 5);
        Check.refused("tin 4", x, x.tin(4, 7), 2);
        Check.refused("tin -1", x, x.tin(-1, 0), 2);
    }

    private static void copyGot() {
        TinFen x = Check.of("trait t worth 99;person p;person q is t;person r is t;lane p q;lane q r;tin a of t on p;");
        x.pass(0, 1);
        x.pass(0, 2);
        x.pass(0, 1);
        x.pass(0, 2);
        Check.refused("tray 4", x, x.copyGot(4), 1);
        Check.refused("tray -1", x, x.copyGot(-1), 1);
        Check.refused("MISSING", x, x.copyGot(0), 3);
        x.tray(0, 0, 2);
        x.write(0, 0, 5);
        Check.refused("too few", x, x.copyGot(0), 4);
        Check.fine("nothing changed", x, x.read(0, 0), 5);
        x.tray(0, 0, 4);
        x.write(0, 3, 5);
        Check.fine("copied", x, x.copyGot(0), 3);
        Check.fine("p", x, x.read(0, 0), 99);
        Check.fine("q, cut", x, x.read(0, 1), (byte) 198);
        Check.fine("r", x, x.read(0, 2), 99);
        Check.fine("behind it", x, x.read(0, 3), 5);
        x.tray(1, 3, 3);
        Check.fine("just enough", x, x.copyGot(1), 3);
        Check.fine("q", x, x.read(1, 1), 198);
    }
}
