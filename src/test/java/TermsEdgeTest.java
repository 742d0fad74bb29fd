import java.util.List;

/** The boundaries under "Terms": TRAYS, TOKENS, NAMES, NUMBERS, how many there may be, the FAULTS of a FEN. */
public final class TermsEdgeTest {
    private static final String[] WORDS = {"odds", "trait", "worth", "person", "is", "lane", "tin", "of", "on", "lead",
        "pass", "bite", "learn", "lose", "any", "when", "got", "gone", "loop", "end", "stop"};
    private static final String SIX = "trait ta worth 1;trait tb worth 2;trait tc worth 3;trait td worth 4;trait te worth 5;"
        + "trait tf worth 6;";
    private static final String SEVEN = "person pa;person pb;person pc;person pd;person pe;person pf;person pg;";

    public static void main(String[] args) {
        Edges.runAll(TermsEdgeTest.class);
    }

    private static void taken(String text, int tins) {
        TinFen x = new TinFen();
        Check.fine("fen " + text, x, Check.fen(x, text), tins);
        Check.due("fen " + text + ", fault(0)", x.fault(0), 0);
        Check.due("fen " + text + ", fault(1)", x.fault(1), -1);
    }

    /** The FAULT by its kind and place, and that the tape is empty then, and the old FEN as it was. */
    private static void faulty(String text, int kind, int place) {
        Check.fenFault(text, kind, place);
        TinFen x = Check.ann();
        Check.fault("fen " + text, x, Check.fen(x, text), kind, place);
        Check.due("fen " + text + ", the tape is empty", x.feed(0, 0, 0, 0, 0), 20);
        Edges.leavesFen("fen " + text, LIVED, y -> Check.fen(y, text));
    }

    /** YEARS that were lived, a MARK, a FRACTION, a TRAY; nothing on the tape. */
    private static final Edges.Maker LIVED = () -> {
        TinFen x = Check.ann();
        Check.years(x, "any;bite c;pass b ben;");
        x.mark();
        x.live(3);
        x.drop(0);
        x.tray(1, 2, 3);
        x.share(1);
        return x;
    };

    // ---- TRAYS

    private static void terms_traysAre0To3() {
        for (int t : new int[] {Integer.MIN_VALUE, -1, 4, 5, Integer.MAX_VALUE}) {
            Edges.denies("tray", Edges.RICH, 1, x -> x.tray(t, 0, 1));
            Edges.denies("write", Edges.RICH, 1, x -> x.write(t, 0, 1));
            Edges.refuses("read", Edges.RICH, 1, x -> x.read(t, 0));
            Edges.denies("pour from", Edges.RICH, 1, x -> x.pour(t, 0, 0, 0, 1));
            Edges.denies("pour to", Edges.RICH, 1, x -> x.pour(0, 0, t, 0, 1));
            Edges.refuses("copyGot", Edges.RICH, 1, x -> x.copyGot(t));
            Edges.refuses("whose", Edges.RICH, 1, x -> x.whose(t, 0));
            Edges.refuses("sure", Edges.RICH, 1, x -> x.sure(t, 0));
            Edges.refuses("ask", Edges.RICH, 1, x -> x.ask(t, 0));
        }
        TinFen x = new TinFen();
        for (int t = 0; t < 4; t++) {
            Check.fine("tray " + t, x, x.tray(t, 2, 1));
            Check.fine("write " + t, x, x.write(t, 0, 100 + t));
        }
        for (int t = 0; t < 4; t++) {
            Check.fine("read " + t, x, x.read(t, 0), 100 + t);
        }
    }

    private static void terms_traysAreMissingAtFirst() {
        for (int i = 0; i < 4; i++) {
            int t = i;
            Edges.denies("write", Edges.EMPTY, 3, x -> x.write(t, 0, 1));
            Edges.refuses("read", Edges.EMPTY, 3, x -> x.read(t, 0));
            Edges.denies("pour", Edges.EMPTY, 3, x -> x.pour(t, 0, t, 0, 0));
            Edges.refuses("copyGot", Edges.EMPTY, 3, x -> x.copyGot(t));
            Edges.refuses("whose", Edges.EMPTY, 3, x -> x.whose(t, 0));
            Edges.refuses("sure", Edges.EMPTY, 3, x -> x.sure(t, 0));
            Edges.refuses("ask", Edges.EMPTY, 3, x -> x.ask(t, 0));
        }
    }

    private static void terms_sortsAre0To3() {
        for (int sort : new int[] {Integer.MIN_VALUE, -1, 4, 5, Integer.MAX_VALUE}) {
            Edges.denies("sort " + sort, Edges.RICH, 1, x -> x.tray(0, sort, 4));
        }
        for (int sort = 0; sort < 4; sort++) {
            TinFen x = Edges.RICH.make();
            Check.fine("sort " + sort, x, x.tray(0, sort, 4));
        }
    }

    private static void cut(int sort, long v, long due) {
        TinFen x = new TinFen();
        x.tray(2, sort, 3);
        Check.fine("write " + v, x, x.write(2, 1, v));
        Check.fine("read " + v, x, x.read(2, 1), due);
        Check.fine("beside it", x, x.read(2, 0), 0);
        Check.fine("beside it", x, x.read(2, 2), 0);
    }

    private static void terms_sort0HasEightBitsWithSign() {
        cut(0, 127, 127);
        cut(0, 128, -128);
        cut(0, -128, -128);
        cut(0, -129, 127);
        cut(0, 255, -1);
        cut(0, 256, 0);
        cut(0, Long.MAX_VALUE, -1);
        cut(0, Long.MIN_VALUE, 0);
    }

    private static void terms_sort1HasSixteenBitsWithSign() {
        cut(1, 32767, 32767);
        cut(1, 32768, -32768);
        cut(1, -32768, -32768);
        cut(1, -32769, 32767);
        cut(1, 65535, -1);
        cut(1, 65536, 0);
        cut(1, Long.MAX_VALUE, -1);
        cut(1, Long.MIN_VALUE, 0);
    }

    private static void terms_sort2HasThirtyTwoBitsWithSign() {
        cut(2, Integer.MAX_VALUE, Integer.MAX_VALUE);
        cut(2, Integer.MAX_VALUE + 1L, Integer.MIN_VALUE);
        cut(2, Integer.MIN_VALUE, Integer.MIN_VALUE);
        cut(2, Integer.MIN_VALUE - 1L, Integer.MAX_VALUE);
        cut(2, (1L << 32) - 1, -1);
        cut(2, 1L << 32, 0);
        cut(2, Long.MAX_VALUE, -1);
        cut(2, Long.MIN_VALUE, 0);
    }

    private static void terms_sort3HasSixtyFourBitsWithSign() {
        cut(3, Long.MAX_VALUE, Long.MAX_VALUE);
        cut(3, Long.MIN_VALUE, Long.MIN_VALUE);
        cut(3, 1L << 32, 1L << 32);
        cut(3, -1, -1);
    }

    // ---- a TEXT, its TOKENS

    private static void terms_aFenHasAtMost900Bytes() {
        String text = Edges.fullText();
        String last = "tin v of c on h lead;";
        String start = text.substring(0, text.length() - last.length());
        Check.due("the last PART", text.endsWith(last), true);
        taken(start + " ".repeat(900 - text.length()) + last, 9);
        taken(text + "\n".repeat(900 - text.length()), 9);
        faulty(start + " ".repeat(900 - text.length() + 1) + last.substring(0, last.length() - 1), 2, 900);
        faulty(text + " ".repeat(899 - text.length()) + "!", 1, 899);
        Edges.refuses("901", Edges.FULL, 5, x -> x.fen(901));
        TinFen x = Edges.FULL.make();
        Check.fine("900 blanks", x, x.fen(900), 0);
    }

    private static boolean isBlank(int b) {
        return b == 10 || b == 32;
    }

    private static boolean isSign(int b) {
        return b == ';' || b == '<' || b == '>' || b == '=';
    }

    private static boolean isLetter(int b) {
        return b >= 97 && b <= 122;
    }

    private static boolean isDigit(int b) {
        return b >= 48 && b <= 57;
    }

    /** Each of the 256 bytes by itself: blanks, the first of a TOKEN that can't stand there, or none. */
    private static void terms_eachByteByItself() {
        for (int b = 0; b < 256; b++) {
            String text = String.valueOf((char) b);
            if (isBlank(b)) {
                taken(text, 0);
            } else {
                boolean token = isSign(b) || isLetter(b) || isDigit(b);
                faulty(text, token ? 2 : 1, 0);
            }
        }
    }

    /** Each of the 256 bytes between a NUMBER and a sign. */
    private static void terms_blanksAre10And32() {
        for (int b = 0; b < 256; b++) {
            String text = "odds 4" + (char) b + ";";
            if (isBlank(b)) {
                taken(text, 0);
            } else if (isDigit(b)) {
                faulty(text, 4, 5);
            } else {
                faulty(text, isSign(b) || isLetter(b) ? 2 : 1, b == ';' ? 7 : 6);
            }
        }
        taken("\n \nodds\n\n4 \n ;\n", 0);
        taken(" \n ", 0);
    }

    private static void terms_tokensGoAsLongAsTheyCan() {
        taken("odds4;trait a worth99;person p is a;", 0);
        faulty("oddsx 4;", 2, 0);
        faulty("traita worth 4;", 2, 0);
        faulty("trait aworth 4;", 2, 13);
        faulty("person pis;lane", 2, 11 + 4);
        faulty("person p isa;", 2, 9);
        faulty("odds 4odds 4;", 2, 6);
        faulty("odds 4 4;", 2, 7);
        faulty("trait a worth 4<;", 2, 15);
    }

    private static void terms_wordsAreOfSmallLetters() {
        taken("person abcdefgh;person ijklmnop;person qrstuvwx;person yz;", 0);
        faulty("Person p;", 1, 0);
        faulty("personP p;", 1, 6);
        faulty("person P;", 1, 7);
        faulty("person pA;", 1, 8);
        faulty("person pZ;", 1, 8);
        faulty("person p`;", 1, 8);
        faulty("person p{;", 1, 8);
        faulty("person p_q;", 1, 8);
    }

    private static void terms_numbersHaveOneToFourDigits() {
        taken("odds 7;", 0);
        taken("odds 07;", 0);
        taken("odds 007;", 0);
        taken("odds 0016;trait t worth 0099;", 0);
        faulty("odds 00007;", 1, 5);
        faulty("odds 00000;", 1, 5);
        faulty("trait t worth 99999999999999999999999;", 1, 14);
        faulty("trait t worth 4294967297;", 1, 14);
        faulty("odds -1;", 1, 5);
        faulty("odds +1;", 1, 5);
        faulty("odds 1.0;", 1, 6);
    }

    private static void terms_signsAreFour() {
        for (String sign : new String[] {"<", ">", "="}) {
            faulty(sign, 2, 0);
            faulty("odds " + sign + ";", 2, 5);
            faulty("odds 4" + sign, 2, 6);
            faulty("person p is " + sign + ";", 2, 12);
        }
        faulty(";", 2, 0);
        faulty("odds 4;;", 2, 7);
        faulty(":", 1, 0);
        faulty("?", 1, 0);
        faulty("/", 1, 0);
        faulty("@", 1, 0);
    }

    private static void terms_anyNumberOfParts() {
        taken("", 0);
        taken("odds 0;", 0);
        TinFen x = Check.ann();
        Check.fine("a FEN of no PART", x, x.fen(0), 0);
        for (int what = 0; what < 10; what++) {
            Check.fine("many " + what, x, x.many(what), what == 4 ? 8 : 0);
        }
    }

    private static void terms_isAndItsNamesMayBeLeftOut() {
        TinFen x = Check.of("trait a worth 1;trait b worth 2;person p;person q is;person r is b;person s is b a;");
        int[] due = {0, 0, 2, 3};
        for (int i = 0; i < 4; i++) {
            Check.fine("person " + i, x, x.person(i, 0), due[i]);
        }
        faulty("trait a worth 1;person p a;", 2, 25);
        faulty("trait a worth 1;person p is a is a;", 2, 30);
    }

    private static void terms_leadMayBeLeftOut() {
        TinFen x = Check.of("trait t worth 1;person p;tin a of t on p;tin b of t on p lead;");
        Check.fine("sound", x, x.tin(0, 2), 0);
        Check.fine("LEAD", x, x.tin(1, 2), 1);
        Check.fine("the set of LEAD", x, x.many(8), 2);
        faulty("trait t worth 1;person p;tin a of t on p lead lead;", 2, 46);
        faulty("trait t worth 1;person p;tin a lead of t on p;", 2, 31);
    }

    // ---- NAMES

    private static void terms_aNameHasOneToEightLetters() {
        taken("trait a worth 1;person b;tin c of a on b;", 1);
        taken("trait aaaaaaaa worth 1;person bbbbbbbb is aaaaaaaa;person zzzzzzzz;lane bbbbbbbb zzzzzzzz;"
            + "tin cccccccc of aaaaaaaa on bbbbbbbb;", 1);
        faulty("trait aaaaaaaaa worth 1;", 2, 6);
        faulty("person aaaaaaaaa;", 2, 7);
        faulty("person p is aaaaaaaaa;", 2, 12);
        faulty("person p;lane aaaaaaaaa p;", 2, 14);
        faulty("person p;lane p aaaaaaaaa;", 2, 16);
        faulty("trait t worth 1;person p;tin aaaaaaaaa of t on p;", 2, 29);
        faulty("trait t worth 1;person p;tin a of ttttttttt on p;", 2, 34);
        faulty("trait t worth 1;person p;tin a of t on ppppppppp;", 2, 39);
        faulty("person " + "a".repeat(800) + ";", 2, 7);
        // thirteen letters and more would run out of 64 bits
        faulty("person aaaaaaaaaaaaaaaaaaa;person aaaaaaaaaaaaaaaaaab;", 2, 7);
    }

    private static void terms_aNameIsNoneOfTheWords() {
        for (String word : WORDS) {
            faulty("trait " + word + " worth 1;", 2, 6);
            faulty("person " + word + ";", 2, 7);
            faulty("person p;lane " + word + " p;", 2, 14);
            faulty("person p;lane p " + word + ";", 2, 16);
            faulty("trait t worth 1;person p;tin " + word + " of t on p;", 2, 29);
            faulty("trait t worth 1;person p;tin a of " + word + " on p;", 2, 34);
            faulty("trait t worth 1;person p;tin a of t on " + word + ";", 2, 39);
            faulty("trait t worth 1;person p is t " + word + ";", 2, 30);
            taken("person " + word + "s;person x" + word + ";", 0);
        }
    }

    private static void terms_oneNameIsOfOneThingAlone() {
        String[] parts = {"trait same worth 1;", "person same;", "tin same of t on p;"};
        int[] at = {6, 7, 4};
        String ahead = "trait t worth 1;person p;";
        for (int i = 0; i < 3; i++) {
            for (int k = 0; k < 3; k++) {
                faulty(ahead + parts[i] + parts[k], 3, ahead.length() + parts[i].length() + at[k]);
            }
        }
        taken(ahead + parts[0] + "person sam;tin samee of same on sam;", 1);
        TinFen x = Check.of("person same;");
        Check.fine("the NAMES ahead of a new FEN are free", x, Check.fen(x, "trait same worth 1;"), 0);
    }

    private static void terms_whatAPartNamesMustBeToldAhead() {
        faulty("person p is t;trait t worth 1;", 3, 12);
        faulty("person p;lane p q;person q;", 3, 16);
        faulty("person p;lane q p;person q;", 3, 14);
        faulty("trait t worth 1;tin a of t on p;person p;", 3, 30);
        faulty("person p;tin a of t on p;trait t worth 1;", 3, 18);
        faulty("trait t worth 1;tin t of t on p;", 3, 20);
        TinFen x = Check.of("trait t worth 1;");
        Check.fault("not of the FEN ahead", x, Check.fen(x, "person p is t;"), 3, 12);
    }

    private static void terms_aNameMustBeOfTheRightThing() {
        String ahead = "trait t worth 1;person p;tin a of t on p;";
        int n = ahead.length();
        faulty(ahead + "person q is p;", 3, n + 12);
        faulty(ahead + "person q is a;", 3, n + 12);
        faulty(ahead + "person q is q;", 3, n + 12);
        faulty(ahead + "lane t p;", 3, n + 5);
        faulty(ahead + "lane a p;", 3, n + 5);
        faulty(ahead + "lane p t;", 3, n + 7);
        faulty(ahead + "lane p a;", 3, n + 7);
        faulty(ahead + "tin b of p on p;", 3, n + 9);
        faulty(ahead + "tin b of a on p;", 3, n + 9);
        faulty(ahead + "tin b of b on p;", 3, n + 9);
        faulty(ahead + "tin b of t on t;", 3, n + 14);
        faulty(ahead + "tin b of t on a;", 3, n + 14);
    }

    // ---- NUMBERS that can be

    private static void terms_oddsAre0To16() {
        for (int odds : new int[] {0, 1, 15, 16}) {
            TinFen x = Check.of("odds " + odds + ";");
            Check.fine("odds", x, x.many(4), odds);
        }
        faulty("odds 17;", 4, 5);
        faulty("odds 99;", 4, 5);
        faulty("odds 9999;", 4, 5);
        faulty("odds 0017;", 4, 5);
    }

    private static void terms_oddsAre8Without() {
        TinFen x = Check.of("odds 3;");
        for (int i = 0; i < 3; i++) {
            Check.fine("the next FEN", x, Check.fen(x, "person p;"), 0);
            Check.fine("8", x, x.many(4), 8);
        }
        x.rule(5);
        Check.fault("a FEN that is refused", x, Check.fen(x, "odds 7;!"), 1, 7);
        Check.fine("5 still", x, x.many(4), 5);
        Check.fine("the next FEN", x, Check.fen(x, ""), 0);
        Check.fine("8", x, x.many(4), 8);
    }

    private static void terms_worthIs0To99() {
        TinFen x = Check.of("trait a worth 0;trait b worth 99;trait c worth 0099;trait d worth 0000;");
        int[] due = {0, 99, 99, 0};
        for (int i = 0; i < 4; i++) {
            Check.fine("worth " + i, x, x.worth(i), due[i]);
        }
        faulty("trait a worth 100;", 4, 14);
        faulty("trait a worth 0100;", 4, 14);
        faulty("trait a worth 9999;", 4, 14);
    }

    // ---- how many there may be

    private static void terms_atMostSixTraits() {
        TinFen x = Check.of(SIX);
        Check.fine("six", x, x.many(0), 6);
        Check.fine("the sixth", x, x.worth(5), 6);
        Edges.refuses("a seventh", () -> Check.of(SIX), 2, y -> y.worth(6));
        faulty(SIX + "trait tg worth 7;", 6, SIX.length());
        faulty(SIX + "  trait", 6, SIX.length() + 2);
    }

    private static void terms_atMostSevenPeople() {
        TinFen x = Check.of(SEVEN);
        Check.fine("seven", x, x.many(1), 7);
        Check.fine("the seventh", x, x.person(6, 0), 0);
        Edges.refuses("an eighth", () -> Check.of(SEVEN), 2, y -> y.person(7, 0));
        faulty(SEVEN + "person ph;", 6, SEVEN.length());
        faulty(SEVEN + "\nperson", 6, SEVEN.length() + 1);
    }

    private static void terms_atMostTwelveLanes() {
        StringBuilder lanes = new StringBuilder(SEVEN);
        for (int i = 0; i < 12; i++) {
            lanes.append("lane p").append((char) ('a' + i % 7)).append(" p").append((char) ('a' + (i + 1) % 7)).append(';');
        }
        TinFen x = Check.of(lanes.toString());
        Check.fine("twelve", x, x.many(2), 12);
        faulty(lanes + "lane pa pb;", 6, lanes.length());
        faulty(lanes + "lane", 6, lanes.length());
    }

    private static void terms_aLaneToldAgainIsOneMore() {
        String again = "person p;person q;lane p q;" + "lane q p;".repeat(11);
        TinFen x = Check.of(again);
        Check.fine("twelve", x, x.many(2), 12);
        Check.fine("p", x, x.person(0, 1), 2);
        Check.fine("q", x, x.person(1, 1), 1);
        faulty(again + "lane p q;", 6, again.length());
    }

    private static void terms_atMostNineTins() {
        StringBuilder tins = new StringBuilder("trait t worth 1;person p;");
        for (int i = 0; i < 9; i++) {
            tins.append("tin n").append((char) ('a' + i)).append(" of t on p;");
        }
        TinFen x = Check.of(tins.toString());
        Check.fine("nine", x, x.many(3), 9);
        Check.fine("all ON p", x, x.person(0, 2), 511);
        faulty(tins + "tin x of t on p;", 6, tins.length());
        faulty(tins + "tin", 6, tins.length());
    }

    private static void terms_allAreFullAtOnce() {
        TinFen x = new TinFen();
        Check.fine("full", x, Check.fen(x, Edges.fullText()), 9);
        int[] due = {6, 7, 12, 9, 8, 0, 0, 0, 341, 1 + 2 + 3 + 4 + 5 + 6 + 1 + 2 + 3};
        for (int what = 0; what < 10; what++) {
            Check.fine("many " + what, x, x.many(what), due[what]);
        }
    }

    private static void terms_allAreNumberedAsTheyStand() {
        TinFen x = Check.of("person z;trait y worth 7;person x is y;trait w worth 8;lane x z;tin v of w on x;person u is w;"
            + "tin t of y on u lead;");
        Check.fine("y", x, x.worth(0), 7);
        Check.fine("w", x, x.worth(1), 8);
        Check.fine("z", x, x.person(0, 1), 2);
        Check.fine("x", x, x.person(1, 0), 1);
        Check.fine("u", x, x.person(2, 0), 2);
        Check.fine("v, of w", x, x.tin(0, 0), 1);
        Check.fine("t, on u", x, x.tin(1, 1), 2);
    }

    // ---- FAULTS

    private static void terms_fault1NoTokenBeginsSo() {
        faulty("odds 4; " + (char) 255, 1, 8);
        faulty("trait t\tworth 1;", 1, 7);
        faulty("odds\r4;", 1, 4);
        faulty("odds 12345;", 1, 5);
        faulty("odds 123456789012;", 1, 5);
        faulty("trait 12345 worth 1;", 1, 6);
        faulty("12345", 1, 0);
    }

    /** A text cut short anywhere but behind a PART: the end can't stand there, or ahead of it a WORD that was cut. */
    private static void terms_fault2AtTheEndIsTheTextsLength() {
        String text = "odds 4;trait x worth 1;person y is x;person z;lane y z;tin v of x on y lead;";
        for (int n = 0; n <= text.length(); n++) {
            String cut = text.substring(0, n);
            if (cut.isEmpty() || cut.endsWith(";")) {
                taken(cut, n == text.length() ? 1 : 0);
            } else {
                String last = Edges.lastWord(cut);
                boolean broken = !last.isEmpty() && !"x y z v".contains(last) && !List.of(WORDS).contains(last);
                faulty(cut, 2, broken ? n - last.length() : n);
                faulty(cut + "  \n", 2, broken ? n - last.length() : n + 3);
            }
        }
    }

    private static void terms_fault2ItCantStandThere() {
        faulty("trait t worth 1 person p;", 2, 16);
        faulty("trait worth 1;", 2, 6);
        faulty("trait t 1;", 2, 8);
        faulty("odds worth;", 2, 5);
        faulty("person;", 2, 6);
        faulty("person p, q;", 1, 8);
        faulty("lane;", 2, 4);
        faulty("worth 1;", 2, 0);
        faulty("p;", 2, 0);
        faulty("4;", 2, 0);
        faulty("lead;", 2, 0);
        faulty("any;", 2, 0);
        faulty("person p;lane p", 2, 15);
        faulty("trait t worth 1;person p;tin a on p of t;", 2, 31);
    }

    private static void terms_fault5OddsToldAlready() {
        faulty("odds 4;odds 4;", 5, 7);
        faulty("odds 4;person p;odds", 5, 16);
        faulty("odds 4;odds 99;", 5, 7);
        faulty("odds 8; \nodds!", 5, 9);
        TinFen x = Check.of("odds 4;");
        Check.fine("odds of the next FEN", x, Check.fen(x, "odds 5;"), 0);
        Check.fine("5", x, x.many(4), 5);
        TinFen y = new TinFen();
        Check.fault("told in a FEN that was refused", y, Check.fen(y, "odds 4;!"), 1, 7);
        Check.fine("odds", y, Check.fen(y, "odds 6;"), 0);
    }

    private static void terms_fault5ATraitTwiceBehindOnePerson() {
        faulty("trait t worth 1;person p is t t;", 5, 30);
        faulty("trait t worth 1;trait u worth 1;person p is t u t;", 5, 48);
        faulty(SIX + "person p is ta tb tc td te tf tf;", 5, SIX.length() + 30);
        faulty(SIX + "person p is ta tb tc td te tf ta;", 5, SIX.length() + 30);
        faulty(SIX + "person p is ta tb tc td te tf zz;", 3, SIX.length() + 30);
        taken("trait t worth 1;person p is t;person q is t;", 0);
        taken(SIX + "person p is tf te td tc tb ta;", 0);
    }

    private static void terms_fault5ALaneFromOneToHimself() {
        faulty("person p;lane p p;", 5, 16);
        faulty("person p;person q;lane q q", 5, 25);
        faulty("person p;lane p p", 5, 16);
        taken("person p;person q;lane q p;", 0);
    }

    private static void terms_theFirstFaultAlongTheText() {
        faulty("odds 99;!", 4, 5);
        faulty("odds 4;go;odds 4;", 2, 7);
        faulty("trait t worth 100;trait t worth 1;", 4, 14);
        faulty("trait t worth 1;trait t worth 100;", 3, 22);
        faulty(SIX + "person ta;trait tg worth 1;", 3, SIX.length() + 7);
        faulty(SIX + "trait ta worth 100;", 6, SIX.length());
        faulty(SEVEN + "person pa;", 6, SEVEN.length());
        faulty(SEVEN + "lane pa pa;person ph;", 5, SEVEN.length() + 8);
        faulty("person p;" + "person q;" + "lane p q;".repeat(12) + "lane p p;", 6, 126);
        faulty("person p;lane x x;", 3, 14);
        faulty("person p is x x;", 3, 12);
    }

    private static void terms_ofOneTokenTheLeastKind() {
        // 1 and 2, 1 and 4: a NUMBER of five digits where a NAME must stand, or that would be too large
        faulty("person 12345;", 1, 7);
        faulty("odds 99999;", 1, 5);
        // 2 and 3: a WORD of nine letters that is of nothing, a WORD that no NAME may be
        faulty("person p is abcdefghi;", 2, 12);
        faulty("person p;lane p lane;", 2, 16);
        // 2 and 4: a NUMBER that could not be, where none stands
        faulty("person 9999;", 2, 7);
        faulty("odds 4 9999;", 2, 7);
        // 2 and 5: odds told already, where it can't stand
        faulty("odds 4;person odds;", 2, 14);
        // 2 and 6: one too many, where it can't stand
        faulty(SIX + "odds trait;", 2, SIX.length() + 5);
        faulty(SEVEN + "lane person", 2, SEVEN.length() + 5);
        // 3 and 5: a NAME that is no TRAIT, twice behind a PERSON
        faulty("trait t worth 1;person p is t p p;", 3, 30);
    }

    private static void terms_aFenThatIsTakenIsThereInPlaceOfThatAhead() {
        TinFen x = Edges.RICH.make();
        Check.fine("RICH has YEARS", x, x.mean(0, 1));
        x.fen(0);
        Check.fine("ann", x, Check.fen(x, Check.ANN), 4);
        TinFen twin = Check.ann();
        Check.same("all of the FEN", Edges.fen(x), Edges.fen(twin));
        Check.refused("there are no YEARS", x, x.live(0), 8);
        Check.refused("there are no YEARS", x, x.mean(0, 1), 8);
        for (int p = 0; p < 4; p++) {
            Check.fine("nobody GOT anything", x, x.person(p, 3), 0);
        }
        int[] held = {2, 1, 1, 8};
        for (int t = 0; t < 4; t++) {
            Check.fine("HELD just by him who has it", x, x.tin(t, 3), held[t]);
        }
    }

    /** A FEN that is refused late has been read for the most part: nothing of it may show. */
    private static void terms_aFenWithAFaultLeavesTheOldOne() {
        String full = Edges.fullText();
        faulty(full + "odds 4;odds", 5, full.length() + 7);
        faulty(full + "lane", 6, full.length());
        faulty(full + "!", 1, full.length());
        TinFen x = Edges.FULL.make();
        x.fen(0);
        Check.fen(x, "person p;!");
        Check.fine("nobody", x, x.many(1), 0);
        Check.fen(x, "person q;");
        Check.fine("one", x, x.many(1), 1);
        Check.fine("he MEETS nobody", x, x.person(0, 1), 0);
        Check.fine("nothing is ON him", x, x.person(0, 2), 0);
    }
}
