/** The boundaries that promises 1 to 17 name: a new object, STATUS, the FRACTION, TRAYS, texts, what is told of a FEN. */
public final class Promises01To17EdgeTest {
    private static final int MIN = Integer.MIN_VALUE;
    private static final int MAX = Integer.MAX_VALUE;
    private static final int BLANKS = 0x20202020;

    /** Edges.RICH, but with an empty tape. */
    private static final Edges.Maker EMPTIED = () -> {
        TinFen x = Edges.RICH.make();
        Check.feedText(x, "!");
        x.fen(60);
        return x;
    };

    public static void main(String[] args) {
        Edges.runAll(Promises01To17EdgeTest.class);
    }

    // ---- a new object, STATUS, the FRACTION

    private static void promise01_aNewObject() {
        TinFen x = new TinFen();
        Check.due("STATUS", x.status(), 0);
        Check.due("top", x.top(), 0);
        Check.due("bottom", x.bottom(), 1);
        Check.due("no FAULT yet", x.fault(0), -1);
        Check.due("no FAULT yet", x.fault(1), -1);
        for (int what = 0; what < 10; what++) {
            Check.fine("a FEN of nobody, many " + what, x, x.many(what), what == 4 ? 8 : 0);
        }
        for (int t = 0; t < 4; t++) {
            Check.refused("TRAYS are MISSING", x, x.read(t, 0), 3);
        }
        Check.refused("no YEARS", x, x.live(0), 8);
        Check.refused("none were lived", x, x.lived(0), 8);
        Check.refused("no MARKS", x, x.back(), 8);
        Check.refused("an empty tape", x, x.fen(1), 5);
        Check.refused("an empty tape", x, x.years(1), 5);
        Check.due("an empty tape", x.feed(0, 0, 0, 0, 0), 20);
    }

    private static void promise01_objectsDoNotShareAnything() {
        TinFen x = new TinFen();
        Edges.FULL.make();
        TinFen rich = Edges.RICH.make();
        Check.due("there is another one", rich.many(1), 4);
        Check.same("a new object beside others", Edges.fen(x), Edges.fen(new TinFen()));
        Check.due("its FAULT", x.fault(0), -1);
        Check.refused("its MARKS", x, x.back(), 8);
        Check.due("its tape", x.feed(0, 0, 0, 0, 0), 20);
        Check.refused("its TRAYS", x, x.read(0, 0), 3);
    }

    /** "An object is used for at most 512 calls after it has been made": the 512th is answered as the first. */
    private static void promise01_anObjectIsUsedFor512Calls() {
        TinFen x = new TinFen();
        int calls = 6;
        x.feed(0x74726169, 0x74207420, 0x776f7274, 0x68203939, 0x3b706572);
        x.feed(0x736f6e20, 0x70206973, 0x20743b70, 0x6572736f, 0x6e207120);
        x.feed(0x69732074, 0x3b6c616e, 0x65207020, 0x713b7469, 0x6e206120);
        x.feed(0x6f662074, 0x206f6e20, 0x703b2020, 0x20202020, 0x20202020);
        Check.due("fen", x.fen(80), 1);
        Check.due("mark", x.mark(), 1);
        for (; calls < 510; calls++) {
            Check.due("pass", x.pass(0, 1 - calls % 2), 99 * ((calls - 6) / 2 + 1));
        }
        Check.due("the 511th", x.back(), 0);
        Check.due("the 512th", x.person(0, 3), 0);
    }

    private static void promise02_statusOfTheLatestCallThatHasOne() {
        TinFen x = Check.ann();
        Check.refused("5", x, x.many(10), 5);
        Check.due("asked again", x.status(), 5);
        x.feed(1, 2, 3, 4, 5);
        x.fault(9);
        x.top();
        x.bottom();
        Check.due("calls without one", x.status(), 5);
        Check.fine("0 again", x, x.many(9), 18);
        Check.refused("1", x, x.read(4, 0), 1);
        Check.refused("2", x, x.worth(3), 2);
        Check.refused("3", x, x.read(0, 0), 3);
        x.tray(0, 0, 0);
        Check.refused("4", x, x.read(0, 0), 4);
        Check.refused("6", x, x.tray(0, 0, -1), 6);
        Check.refused("8", x, x.back(), 8);
        Check.refused("9", x, x.pass(0, 1), 9);
        Check.refused("10", x, x.fen(20), 10);
        x.tray(1, 1, 0);
        Check.refused("11", x, x.pour(0, 0, 1, 0, 0), 11);
        TinFen full = Edges.FULL.make();
        Check.refused("7", full, full.mark(), 7);
    }

    private static void promise03_topStaysUntilAnotherFractionIsTold() {
        TinFen x = Check.ann();
        Check.fraction("share", x, x.share(0), 11, 18);
        x.bites(0, 10);
        x.bites(4, 0);
        x.share(4);
        x.mean(0, 1);
        x.mark();
        x.pass(2, 1);
        x.back();
        Check.fen(x, "");
        Check.due("top", x.top(), 11);
        Check.due("bottom", x.bottom(), 18);
        Check.years(x, "any;");
        Check.fraction("mean", x, x.mean(0, 1), 0, 1);
    }

    private static void promise04_theBottomIsAboveZero() {
        TinFen x = Check.of("odds 0;trait t worth 99;person p;person q;tin a of t on p lead;");
        Check.fraction("0 is 0 by 1", x, x.share(1), 0, 1);
        Check.fraction("0 is 0 by 1", x, x.bites(0, 1), 0, 1);
        Check.fraction("1 is 1 by 1", x, x.share(0), 1, 1);
        Check.fraction("1 is 1 by 1", x, x.bites(0, 0), 1, 1);
    }

    // ---- TRAYS

    private static void promise05_aTrayOfAtMost60Numbers() {
        for (int many : new int[] {0, 1, 59, 60}) {
            TinFen x = Edges.RICH.make();
            Check.fine("tray of " + many, x, x.tray(0, 2, many));
            for (int i = 0; i < many; i++) {
                Check.fine("all 0", x, x.read(0, i), 0);
            }
            Check.refused("behind the last", x, x.read(0, many), 4);
        }
        for (int many : new int[] {61, 62, 900, MAX}) {
            Edges.denies("tray of " + many, Edges.RICH, 5, x -> x.tray(0, 2, many));
            Edges.denies("a MISSING tray of " + many, Edges.RICH, 5, x -> x.tray(3, 2, many));
        }
    }

    private static void promise05_aTraysLengthBelow0() {
        for (int many : new int[] {-1, -61, MIN}) {
            Edges.denies("tray of " + many, Edges.RICH, 6, x -> x.tray(0, 0, many));
            Edges.denies("a MISSING tray of " + many, Edges.RICH, 6, x -> x.tray(3, 0, many));
        }
    }

    private static void promise05_aTrayAnewIsAll0() {
        TinFen x = new TinFen();
        x.tray(0, 3, 60);
        for (int i = 0; i < 60; i++) {
            x.write(0, i, -1 - i);
        }
        Check.fine("shorter", x, x.tray(0, 0, 3));
        Check.refused("place 3", x, x.read(0, 3), 4);
        Check.fine("longer", x, x.tray(0, 0, 60));
        for (int i = 0; i < 60; i++) {
            Check.fine("all 0", x, x.read(0, i), 0);
        }
        x.write(0, 0, 300);
        Check.fine("of the new sort", x, x.read(0, 0), 44);
    }

    private static void promise06_writeToThePlacesThatThereAre() {
        for (int place : new int[] {MIN, -1, 18, 59, 60, MAX}) {
            Edges.denies("write at " + place, Edges.RICH, 4, x -> x.write(1, place, 7));
        }
        TinFen x = Edges.RICH.make();
        Check.fine("the last place", x, x.write(1, 17, Long.MIN_VALUE));
        Check.fine("the last place", x, x.read(1, 17), Long.MIN_VALUE);
        Check.fine("the first place", x, x.write(1, 0, Long.MAX_VALUE));
        Check.fine("the first place", x, x.read(1, 0), Long.MAX_VALUE);
        x.tray(1, 0, 0);
        Check.refused("a TRAY of none", x, x.write(1, 0, 7), 4);
    }

    private static void promise07_readFromThePlacesThatThereAre() {
        for (int place : new int[] {MIN, -1, 18, 59, 60, MAX}) {
            Edges.refuses("read at " + place, Edges.RICH, 4, x -> x.read(1, place));
        }
        TinFen x = Edges.RICH.make();
        Check.fine("the last place", x, x.read(1, 17), 0);
        Check.fine("the last two", x, x.read(1, 6), 3);
    }

    private static void promise07_statusTellsNoneFromMinusOne() {
        for (int sort = 0; sort < 4; sort++) {
            TinFen x = new TinFen();
            x.tray(3, sort, 1);
            x.write(3, 0, -1);
            Check.fine("-1 is there", x, x.read(3, 0), -1);
            Check.refused("NONE", x, x.read(3, 1), 4);
        }
    }

    private static void row(TinFen x, int tray, int many, int from) {
        x.tray(tray, 1, many);
        for (int i = 0; i < many; i++) {
            x.write(tray, i, from + i);
        }
    }

    private static void holds(String what, TinFen x, int tray, int... due) {
        for (int i = 0; i < due.length; i++) {
            Check.fine(what + " at " + i, x, x.read(tray, i), due[i]);
        }
        Check.refused(what + ", no more", x, x.read(tray, due.length), 4);
    }

    private static void promise08_pourToTheSameTray() {
        TinFen x = new TinFen();
        row(x, 2, 5, 10);
        Check.fine("onto themselves", x, x.pour(2, 1, 2, 1, 3));
        holds("as they were", x, 2, 10, 11, 12, 13, 14);
        Check.fine("up", x, x.pour(2, 0, 2, 1, 4));
        holds("up, as they were", x, 2, 10, 10, 11, 12, 13);
        row(x, 2, 5, 10);
        Check.fine("down", x, x.pour(2, 2, 2, 0, 3));
        holds("down, as they were", x, 2, 12, 13, 14, 13, 14);
    }

    private static void promise08_pourUpToTheLastPlace() {
        TinFen x = new TinFen();
        row(x, 0, 60, 100);
        row(x, 1, 60, 200);
        Check.fine("all sixty", x, x.pour(0, 0, 1, 0, 60));
        Check.fine("the first", x, x.read(1, 0), 100);
        Check.fine("the last", x, x.read(1, 59), 159);
        row(x, 1, 3, 200);
        Check.fine("the last to the last", x, x.pour(0, 59, 1, 2, 1));
        holds("the last", x, 1, 200, 201, 159);
        Check.fine("the first to the first", x, x.pour(0, 0, 1, 0, 1));
        holds("the first", x, 1, 100, 201, 159);
    }

    private static void promise08_pourOfNone() {
        TinFen x = new TinFen();
        row(x, 0, 4, 10);
        row(x, 1, 0, 0);
        Check.fine("none", x, x.pour(0, 0, 1, 0, 0));
        Check.fine("none, behind the last", x, x.pour(0, 4, 1, 0, 0));
        holds("as it was", x, 0, 10, 11, 12, 13);
    }

    private static void promise08_pourOfMoreThanThereIs() {
        Edges.Maker two = () -> {
            TinFen x = Edges.RICH.make();
            row(x, 0, 4, 10);
            row(x, 1, 6, 20);
            return x;
        };
        int[][] bad = {{0, -1, 1, 0, 1}, {0, 0, 1, -1, 1}, {0, 4, 1, 0, 1}, {0, 0, 1, 6, 1}, {0, 0, 1, 0, 5}, {1, 0, 0, 0, 5},
            {0, 1, 1, 0, 4}, {1, 0, 0, 1, 4}, {0, 0, 1, 3, 4}, {0, -1, 1, 0, 0}, {0, 0, 1, -1, 0}, {0, 5, 1, 0, 0},
            {0, 0, 1, 7, 0}, {0, 0, 1, 0, MAX}, {0, 1, 1, 1, MAX}, {0, MAX, 1, 0, 1}, {0, 0, 1, MAX, 1}, {0, MAX, 1, MAX, MAX},
            {0, MIN, 1, 0, 1}, {0, 0, 1, MIN, MAX}};
        for (int[] b : bad) {
            Edges.denies("pour", two, 4, x -> x.pour(b[0], b[1], b[2], b[3], b[4]));
        }
        for (int many : new int[] {-1, MIN}) {
            Edges.denies("pour of " + many, two, 6, x -> x.pour(0, 0, 1, 0, many));
        }
    }

    private static void promise08_pourOfUnlikeSorts() {
        for (int from = 0; from < 4; from++) {
            for (int to = 0; to < 4; to++) {
                TinFen x = new TinFen();
                x.tray(0, from, 2);
                x.tray(1, to, 2);
                x.write(0, 0, -5);
                boolean poured = x.pour(0, 0, 1, 1, 1);
                Check.due("poured", poured, from == to);
                Check.due("status", x.status(), from == to ? 0 : 11);
                Check.fine("what came", x, x.read(1, 1), from == to ? -5 : 0);
            }
        }
    }

    // ---- the tape

    private static void promise09_feedUpTo900Bytes() {
        TinFen x = new TinFen();
        for (int i = 1; i <= 45; i++) {
            Check.due("feed", x.feed(BLANKS, BLANKS, BLANKS, BLANKS, BLANKS), 20 * i);
        }
        for (int i = 0; i < 3; i++) {
            Check.due("there would be more than 900", x.feed(0, 0, 0, 0, 0), -1);
        }
        Check.fine("the tape is as it was", x, x.fen(900), 0);
        Check.due("and empty then", x.feed(0, 0, 0, 0, 0), 20);
    }

    private static void promise09_theHighestByteOfEachIntFirst() {
        for (int k = 0; k < 20; k++) {
            int[] five = {BLANKS, BLANKS, BLANKS, BLANKS, BLANKS};
            five[k / 4] ^= 1 << (24 - 8 * (k % 4));
            TinFen x = new TinFen();
            x.feed(five[0], five[1], five[2], five[3], five[4]);
            Check.fault("a byte 33 at " + k, x, x.fen(20), 1, k);
            // the sign of an int is just the highest bit of its first byte
            five[k / 4] |= 0x80808080;
            x.feed(five[0], five[1], five[2], five[3], five[4]);
            Check.fault("bytes above 127", x, x.fen(20), 1, k / 4 * 4);
        }
    }

    private static void promise10_fenOfTheFirstBytes() {
        TinFen x = new TinFen();
        Check.feedText(x, "person p;person q;!!");
        Check.fine("the first 18", x, x.fen(18), 0);
        Check.fine("two", x, x.many(1), 2);
        Check.refused("the tape is empty then", x, x.fen(1), 5);
        Check.feedText(x, "person p;person q;!!");
        Check.fine("the first 9", x, x.fen(9), 0);
        Check.fine("one", x, x.many(1), 1);
        Check.feedText(x, "person p;person q;!!");
        Check.fault("the first 19", x, x.fen(19), 1, 18);
        Check.refused("the tape is empty then", x, x.fen(1), 5);
        Check.feedText(x, "!!!!");
        Check.fine("the first 0", x, x.fen(0), 0);
        Check.refused("the tape is empty then", x, x.fen(1), 5);
    }

    /** What stands behind the first n bytes does not count, though it would make a TOKEN longer. */
    private static void promise10_whatStandsBehindTheFirstBytes() {
        TinFen x = new TinFen();
        Check.feedText(x, "odds 1;person p;1234");
        Check.fault("odds 1", x, x.fen(6), 2, 6);
        Check.feedText(x, "odds 16;");
        Check.fault("odds 1 of 16", x, x.fen(6), 2, 6);
        Check.feedText(x, "person ppp;");
        Check.fault("person p of ppp", x, x.fen(8), 2, 8);
        Check.feedText(x, "odds 12345;");
        Check.fault("1234 of 12345 is a NUMBER, that can't be", x, x.fen(9), 4, 5);
        Check.feedText(x, "odds    ;");
        Check.fault("blanks", x, x.fen(6), 2, 6);
        TinFen y = Check.ann();
        Check.feedText(y, "loop 12;end;");
        Check.fault("loop 1 of 12", y, y.years(6), 2, 6);
        Check.feedText(y, "anything;");
        Check.fault("any of anything", y, y.years(3), 2, 3);
        // a longer text that was on the tape ahead leaves nothing
        Check.feedText(y, "any;any;any;any;any;any;any;");
        Check.fine("one", y, y.years(4), 1);
        y.feed(0x616e793b, 0x20202020, 0x20202020, 0x20202020, 0x20202020);
        Check.fine("one", y, y.years(20), 1);
    }

    private static void promise10_moreBytesThanThereAre() {
        for (int n : new int[] {MIN, -1, 41, 900, 901, MAX}) {
            Edges.refuses("fen(" + n + ")", Edges.RICH, 5, x -> x.fen(n));
        }
        for (int n : new int[] {MIN, -1, 1, 20, MAX}) {
            Edges.refuses("fen(" + n + ")", Edges.EMPTY, 5, x -> x.fen(n));
        }
        TinFen x = Edges.RICH.make();
        Check.fine("fen(40)", x, x.fen(40), 0);
        Check.fine("one", x, x.many(1), 1);
    }

    private static void promise10_howManyTins() {
        StringBuilder text = new StringBuilder("trait t worth 1;person p;");
        for (int i = 0; i <= 9; i++) {
            TinFen x = new TinFen();
            Check.fine(i + " TINS", x, Check.fen(x, text.toString()), i);
            text.append("tin n").append((char) ('a' + i)).append(" of t on p;");
        }
    }

    private static void promise10_theOldOneStays() {
        for (String text : new String[] {"!", "person", "person p;person p;", "odds 17;", "odds 1;odds 1;", Edges.fullText() + "tin"}) {
            Edges.leavesFen(text, EMPTIED, x -> Check.fen(x, text));
        }
    }

    private static void promise11_yearsOfAtMost300Bytes() {
        TinFen x = Check.ann();
        Check.feedText(x, " ".repeat(296) + "any;");
        Check.fine("300 bytes", x, x.years(300), 1);
        Check.feedText(x, " ".repeat(297) + "any;");
        Check.refused("301 bytes", x, x.years(301), 5);
        Check.fault("the first 300 of these", x, x.years(300), 2, 300);
        Edges.Maker long320 = () -> {
            TinFen y = Edges.RICH.make();
            Check.feedText(y, " ".repeat(280));
            return y;
        };
        for (int n : new int[] {MIN, -1, 301, 320, 321, MAX}) {
            Edges.refuses("years(" + n + ")", long320, 5, y -> y.years(n));
        }
        for (int n : new int[] {MIN, -1, 41, 300, 301, MAX}) {
            Edges.refuses("years(" + n + ")", Edges.RICH, 5, y -> y.years(n));
        }
    }

    private static void promise11_howManySteps() {
        TinFen x = Check.ann();
        for (int i = 0; i <= 30; i++) {
            Check.fine(i + " STEPS", x, Check.years(x, "any;".repeat(i)), i);
            Check.fine(i + " STEPS are done", x, x.live(0), i);
        }
        Check.fine("end is none", x, Check.years(x, "loop 2;when gone a;stop;end;end;"), 3);
    }

    private static void promise11_theTapeIsEmptyThen() {
        TinFen x = Check.ann();
        Check.feedText(x, "any;any;!!");
        Check.fine("the first 4", x, x.years(4), 1);
        Check.refused("empty", x, x.years(1), 5);
        Check.feedText(x, "any;any;!!");
        Check.fault("the first 9", x, x.years(9), 1, 8);
        Check.refused("empty", x, x.years(1), 5);
        Check.feedText(x, "!!");
        Check.fine("the first 0", x, x.years(0), 0);
        Check.refused("empty", x, x.fen(1), 5);
    }

    private static void promise11_theOldOnesStay() {
        for (String text : new String[] {"!", "pass", "pass b zoe;", "loop 0;", "any;".repeat(31), "loop 1;".repeat(4), "end;",
            "lose ann ear;loop 3;any;"}) {
            Edges.leavesFen(text, EMPTIED, x -> Check.years(x, text));
        }
    }

    private static void promise11_yearsInPlaceOfThoseAhead() {
        TinFen x = Check.ann();
        Check.years(x, "loop 9;learn dot wit;end;stop;");
        Check.fine("others", x, Check.years(x, "lose dot ear;"), 1);
        Check.fine("one STEP", x, x.live(0), 1);
        Check.fine("dot", x, x.person(3, 0), 0);
    }

    private static void promise12_faultAheadOfAny() {
        TinFen x = new TinFen();
        x.fen(1);
        x.years(-1);
        x.many(77);
        for (int what : new int[] {MIN, -1, 0, 1, 2, MAX}) {
            Check.due("fault(" + what + ")", x.fault(what), -1);
        }
    }

    private static void promise12_faultOfTheLatestWithStatus0Or10() {
        TinFen x = new TinFen();
        Check.fen(x, "odds 4; odds 4;");
        Check.due("kind", x.fault(0), 5);
        Check.due("place", x.fault(1), 8);
        Check.refused("STATUS 5 is none of these", x, x.years(301), 5);
        Check.refused("STATUS 5 is none of these", x, x.fen(-1), 5);
        Check.due("kind", x.fault(0), 5);
        Check.due("place", x.fault(1), 8);
        Check.fine("STATUS 0", x, x.fen(0), 0);
        Check.due("without one", x.fault(0), 0);
        Check.due("without one", x.fault(1), -1);
        Check.years(x, "!");
        Check.due("kind 1", x.fault(0), 1);
        Check.due("place 0", x.fault(1), 0);
        x.mark();
        Check.fine("YEARS with STATUS 0", x, Check.years(x, "any;"), 1);
        Check.due("without one", x.fault(0), 0);
        Check.due("without one", x.fault(1), -1);
        for (int what : new int[] {MIN, -1, 2, 3, MAX}) {
            Check.due("others", x.fault(what), -1);
        }
    }

    // ---- what is told of a FEN

    private static void promise13_manyIsOf0To9() {
        for (int what : new int[] {MIN, -1, 10, 11, MAX}) {
            Edges.refuses("many(" + what + ")", Edges.RICH, 5, x -> x.many(what));
            Edges.refuses("many(" + what + ")", Edges.EMPTY, 5, x -> x.many(what));
        }
        TinFen x = Edges.RICH.make();
        // RICH: a was thrown away, d is FOUND; b is worth 2, c and TIN 4 are worth 9 each
        int[] due = {3, 4, 4, 5, 4, 4, 9, 8, 4 + 8 + 16, 20};
        for (int what = 0; what < 10; what++) {
            Check.fine("many(" + what + ")", x, x.many(what), due[what]);
        }
    }

    private static void promise13_manyOfAllNineTins() {
        TinFen x = Check.of(Edges.fullText());
        for (int t = 0; t < 9; t++) {
            x.bite(t);
        }
        Check.fine("those of LEAD are GONE", x, x.many(6), 341);
        Check.fine("those of LEAD are FOUND", x, x.many(7), 341);
        Check.fine("those of LEAD", x, x.many(8), 341);
        Check.fine("WORTH of the sound ones", x, x.many(9), 2 + 4 + 6 + 2);
        for (int t = 1; t < 9; t += 2) {
            x.drop(t);
        }
        Check.fine("all are GONE", x, x.many(6), 511);
        Check.fine("no more are FOUND", x, x.many(7), 341);
        Check.fine("WORTH of none", x, x.many(9), 0);
        Check.fine("there are nine still", x, x.many(3), 9);
    }

    private static void promise13_worthOfAllAtTheMost() {
        StringBuilder text = new StringBuilder("trait t worth 99;person p;");
        for (int i = 0; i < 9; i++) {
            text.append("tin n").append((char) ('a' + i)).append(" of t on p;");
        }
        TinFen x = Check.of(text.toString());
        Check.fine("nine by 99", x, x.many(9), 891);
        Check.fine("ON p", x, x.person(0, 4), 891);
        x.price(0, 1);
        Check.fine("nine by 1", x, x.many(9), 9);
        x.price(0, 0);
        Check.fine("nine by 0", x, x.many(9), 0);
    }

    private static void promise14_worthOfATrait() {
        for (int t : new int[] {MIN, -1, 3, 6, 32, MAX}) {
            Edges.refuses("worth(" + t + ")", Edges.RICH, 2, x -> x.worth(t));
        }
        TinFen x = Edges.RICH.make();
        Check.fine("worth(0)", x, x.worth(0), 7);
        Check.fine("worth(2)", x, x.worth(2), 9);
        TinFen full = Edges.FULL.make();
        Check.fine("worth(5)", full, full.worth(5), 6);
        Check.refused("worth(6)", full, full.worth(6), 2);
        Edges.refuses("worth(0) of none", Edges.EMPTY, 2, y -> y.worth(0));
    }

    private static void promise15_personIsOf0To4() {
        for (int what : new int[] {MIN, -1, 5, 6, MAX}) {
            Edges.refuses("person(0, " + what + ")", Edges.RICH, 5, x -> x.person(0, what));
        }
        for (int p : new int[] {MIN, -1, 4, 7, 32, MAX}) {
            Edges.refuses("person(" + p + ", 0)", Edges.RICH, 2, x -> x.person(p, 0));
        }
        TinFen x = Edges.FULL.make();
        Check.fine("all six are TRUE of the seventh", x, x.person(6, 0), 63);
        Check.refused("an eighth", x, x.person(7, 0), 2);
    }

    private static void promise15_tinsThatAreGoneAreOnNobody() {
        TinFen x = Edges.RICH.make();
        int[] on = {2, 4, 16, 0};
        int[] worth = {2, 9, 9, 0};
        for (int p = 0; p < 4; p++) {
            Check.fine("ON him", x, x.person(p, 2), on[p]);
            Check.fine("WORTH ON him", x, x.person(p, 4), worth[p]);
        }
    }

    private static void promise15_whomHeMeets() {
        TinFen x = Check.of("person p;person q;person r;person s;person t;person u;person v;lane v p;lane p u;lane v p;");
        int[] due = {64 + 32, 0, 0, 0, 0, 1, 1};
        for (int p = 0; p < 7; p++) {
            Check.fine("he MEETS", x, x.person(p, 1), due[p]);
        }
    }

    private static void promise16_tinIsOf0To4() {
        for (int what : new int[] {MIN, -1, 5, 6, MAX}) {
            Edges.refuses("tin(1, " + what + ")", Edges.RICH, 5, x -> x.tin(1, what));
            Edges.refuses("tin(0, " + what + "), GONE", Edges.RICH, 5, x -> x.tin(0, what));
        }
        for (int t : new int[] {MIN, -1, 5, 9, 32, MAX}) {
            Edges.refuses("tin(" + t + ", 0)", Edges.RICH, 2, x -> x.tin(t, 0));
        }
    }

    private static void promise16_whoHasATinThatIsGone() {
        Edges.refuses("thrown away", Edges.RICH, 8, x -> x.tin(0, 1));
        Edges.refuses("FOUND", Edges.RICH, 8, x -> x.tin(3, 1));
        TinFen x = Edges.RICH.make();
        int[][] due = {{0, -1, 0, 2, 0}, {1, -1, 1, 8, 0}};
        for (int what = 0; what < 5; what++) {
            if (what != 1) {
                Check.fine("thrown away", x, x.tin(0, what), due[0][what]);
                Check.fine("FOUND", x, x.tin(3, what), due[1][what]);
            }
        }
        TinFen full = Edges.FULL.make();
        Check.fine("the ninth", full, full.tin(8, 0), 2);
        Check.refused("a tenth", full, full.tin(9, 0), 2);
    }

    private static void promise16_heldByAllSeven() {
        TinFen x = Check.of("trait t worth 1;person p is t;person q is t;person r is t;person s is t;person u is t;"
            + "person v is t;person w is t;tin a of t on s;lane s p;lane p q;lane q r;lane r u;lane u v;");
        for (int p : new int[] {0, 1, 2, 4, 5}) {
            x.pass(0, p);
        }
        Check.fine("HELD by six", x, x.tin(0, 3), 127 - 64);
        Check.fine("PASSED", x, x.tin(0, 4), 5);
        x.recite(0, 6);
        Check.fine("HELD by all", x, x.tin(0, 3), 127);
        Check.fine("READ is no PASS", x, x.tin(0, 4), 5);
    }

    private static void promise17_copyGotToAsManyPlaces() {
        for (int many = 0; many <= 6; many++) {
            int length = many;
            Edges.Maker maker = () -> {
                TinFen x = Edges.RICH.make();
                x.tray(2, 1, length);
                for (int i = 0; i < length; i++) {
                    x.write(2, i, -7);
                }
                return x;
            };
            if (many < 4) {
                Edges.refuses("too few", maker, 4, x -> x.copyGot(2));
                continue;
            }
            TinFen x = maker.make();
            Check.fine("copyGot", x, x.copyGot(2), 4);
            for (int i = 0; i < many; i++) {
                Check.fine("place " + i, x, x.read(2, i), i < 4 ? x.person(i, 3) : -7);
            }
        }
        Edges.refuses("MISSING", Edges.RICH, 3, x -> x.copyGot(3));
    }

    private static void promise17_copyGotOfNobody() {
        TinFen x = new TinFen();
        x.tray(0, 0, 0);
        Check.fine("to a TRAY of none", x, x.copyGot(0), 0);
        x.tray(0, 0, 1);
        x.write(0, 0, 5);
        Check.fine("to a TRAY of one", x, x.copyGot(0), 0);
        Check.fine("it stays", x, x.read(0, 0), 5);
        Edges.refuses("MISSING, though there is nobody", Edges.EMPTY, 3, y -> y.copyGot(0));
    }

    private static void promise17_whatIsCopiedIsCut() {
        TinFen x = Check.of("trait t worth 64;person p is t;person q is t;lane p q;tin a of t on p;");
        for (int i = 0; i < 4; i++) {
            x.pass(0, 1);
            x.pass(0, 0);
        }
        x.tray(0, 0, 2);
        x.tray(1, 1, 2);
        Check.fine("8 bits", x, x.copyGot(0), 2);
        Check.fine("256 of 8 bits", x, x.read(0, 0), 0);
        Check.fine("16 bits", x, x.copyGot(1), 2);
        Check.fine("256", x, x.read(1, 1), 256);
    }
}
