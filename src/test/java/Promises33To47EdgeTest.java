/** The boundaries that section 3 and promises 33 to 47 name: givings, what was seen, games, odds. */
public final class Promises33To47EdgeTest {
    private static final int MIN = Integer.MIN_VALUE;
    private static final int MAX = Integer.MAX_VALUE;
    private static final int[] NO_TIN = {MIN, -1, 5, 9, 32, MAX};
    private static final int[] NO_PERSON = {MIN, -1, 4, 7, 32, MAX};

    public static void main(String[] args) {
        Edges.runAll(Promises33To47EdgeTest.class);
    }

    /** So many PEOPLE, a to g, of all of whom t is TRUE, and so many TINS, h to p, on the first. */
    private static TinFen crowd(int people, int tins) {
        StringBuilder text = new StringBuilder("trait t worth 1;");
        for (int i = 0; i < people; i++) {
            text.append("person ").append((char) ('a' + i)).append(" is t;");
        }
        for (int i = 0; i < tins; i++) {
            text.append("tin ").append((char) ('h' + i)).append(" of t on a;");
        }
        return Check.of(text.toString());
    }

    // ---- givings

    private static void section3_givenToHimWhoHasItTooAndNoTwoToOne() {
        TinFen x = Check.of("trait t worth 1;trait u worth 1;person p is t;person q;tin a of t on p;tin b of t on q;tin c of u on p;");
        Check.fine("to p, who has it", x, x.given(1, 0), 0);
        Check.fine("to p, without a LANE", x, x.given(2, 1), 0);
        Check.fine("not to q, who has it, of whom it is not TRUE", x, x.givings(2), 1);
        Check.fine("no two to one", x, x.most(3), 1);
        Check.fine("no two to one", x, x.givings(3), 0);
        Check.fine("TRUE of nobody", x, x.most(4), 0);
        Check.refused("TRUE of nobody", x, x.given(4, 2), 8);
        Check.refused("nor can the others of its set", x, x.given(5, 0), 8);
        TinFen y = Check.of("trait t worth 1;trait u worth 1;person p is t;tin a of u on p;tin b of t on p;");
        Check.refused("the first is TRUE of nobody", y, y.given(3, 0), 8);
        Check.refused("nor can the second of its set", y, y.given(3, 1), 8);
    }

    private static void promise33_mostOfASet() {
        for (int set : new int[] {MIN, -1, -32, 32, 33, 511, 512, 1 << 30, MAX}) {
            Edges.refuses("most(" + set + ")", Edges.RICH, 5, x -> x.most(set));
        }
        for (int set : new int[] {1, 8, 9, 11, 31}) {
            Edges.refuses("one of it is GONE", Edges.RICH, 9, x -> x.most(set));
        }
        for (int set : new int[] {1, MIN, -1, MAX}) {
            Edges.refuses("there are no TINS", Edges.EMPTY, 5, x -> x.most(set));
        }
        TinFen x = Edges.RICH.make();
        Check.fine("of none, though some are GONE", x, x.most(0), 0);
        Check.fine("of all that are not GONE", x, x.most(22), 3);
    }

    private static void promise33_mostUpToSeven() {
        for (int people = 1; people <= 7; people++) {
            TinFen x = crowd(people, 9);
            for (int many = 0; many <= 9; many++) {
                Check.fine("most", x, x.most((1 << many) - 1), Math.min(many, people));
            }
        }
    }

    private static void promise34_givingsOfASet() {
        for (int set : new int[] {MIN, -1, -32, 32, 33, 511, 512, 1 << 30, MAX}) {
            Edges.refuses("givings(" + set + ")", Edges.RICH, 5, x -> x.givings(set));
        }
        for (int set : new int[] {1, 8, 9, 11, 31}) {
            Edges.refuses("one of it is GONE", Edges.RICH, 9, x -> x.givings(set));
        }
        TinFen x = Edges.RICH.make();
        Check.fine("none can be GIVEN in one way", x, x.givings(0), 1);
        TinFen nobody = new TinFen();
        Check.fine("of nobody, too", nobody, nobody.givings(0), 1);
    }

    private static void promise34_givingsOfAsManyAsThereArePeople() {
        int[] ways = {1, 7, 42, 210, 840, 2520, 5040, 5040, 0, 0};
        TinFen x = crowd(7, 9);
        for (int many = 0; many <= 9; many++) {
            Check.fine("givings of " + many, x, x.givings((1 << many) - 1), ways[many]);
            Check.fine("of the last " + many, x, x.givings(511 & ~(511 >> many)), ways[many]);
        }
    }

    private static void promise35_givenOfATinOfTheSet() {
        for (int t : NO_TIN) {
            Edges.refuses("given(22, " + t + ")", Edges.RICH, 2, x -> x.given(22, t));
            Edges.refuses("given(-1, " + t + ")", Edges.RICH, 2, x -> x.given(-1, t));
        }
        for (int set : new int[] {0, 1, 20, 16}) {
            Edges.refuses("it is none of the set", Edges.RICH, 5, x -> x.given(set, 1));
        }
        for (int set : new int[] {MIN + 2, -1, 34, 2 + 512, MAX}) {
            Edges.refuses("a set with what there is none of", Edges.RICH, 5, x -> x.given(set, 1));
        }
        Edges.refuses("one of it is GONE", Edges.RICH, 9, x -> x.given(3, 1));
        Edges.refuses("it is GONE itself", Edges.RICH, 9, x -> x.given(1, 0));
        Edges.refuses("FOUND", Edges.RICH, 9, x -> x.given(8, 3));
        Edges.refuses("not all can be GIVEN", () -> crowd(7, 9), 8, x -> x.given(255, 0));
        TinFen x = Edges.RICH.make();
        // b may go to ann, ben, dot; c and TIN 4 to ben, cyd
        Check.fine("b to ann", x, x.given(22, 1), 0);
        Check.fine("c to ben", x, x.given(22, 2), 1);
        Check.fine("TIN 4 to cyd", x, x.given(22, 4), 2);
    }

    private static void promise35_theLeastPersonSoThatTheOthersCanStillBeGiven() {
        TinFen x = Check.of("trait t worth 1;trait u worth 1;person p is t u;person q is t;person r is t;"
            + "tin a of t on p;tin b of u on r;tin c of t on q;");
        Check.fine("a alone", x, x.given(1, 0), 0);
        Check.fine("a leaves p for b", x, x.given(3, 0), 1);
        Check.fine("b to p", x, x.given(3, 1), 0);
        Check.fine("a to q", x, x.given(7, 0), 1);
        Check.fine("c to r", x, x.given(7, 2), 2);
        TinFen y = crowd(7, 7);
        for (int t = 0; t < 7; t++) {
            Check.fine("each his own", y, y.given(127, t), t);
        }
    }

    private static void promise36_coverOfNobodyAndByNone() {
        TinFen nobody = new TinFen();
        Check.fine("nobody: 0", nobody, nobody.cover(), 0);
        TinFen traits = Check.of("trait t worth 1;");
        Check.fine("nobody: 0", traits, traits.cover(), 0);
        Edges.refuses("no TRAITS", () -> Check.of("person p;"), 8, x -> x.cover());
        Edges.refuses("nothing TRUE of the last", () -> Check.of("trait t worth 1;person p is t;person q;"), 8, x -> x.cover());
    }

    private static void promise36_coverByAllSix() {
        StringBuilder text = new StringBuilder();
        for (char c = 'a'; c <= 'f'; c++) {
            text.append("trait ").append(c).append(" worth 1;person p").append(c).append(" is ").append(c).append(';');
        }
        TinFen x = Check.of(text + "person pg is a b;");
        Check.fine("six", x, x.cover(), 6);
        Check.fine("all", x, x.coverSet(), 63);
        TinFen y = Check.of(Edges.fullText());
        Check.fine("one", y, y.cover(), 1);
        Check.fine("the least", y, y.coverSet(), 1);
    }

    private static void promise37_coverSetIsTheLeastOfTheFewest() {
        TinFen nobody = new TinFen();
        Check.fine("nobody: none", nobody, nobody.coverSet(), 0);
        Edges.refuses("by none", () -> Check.of("person p;"), 8, x -> x.coverSet());
        TinFen x = Check.of("trait a worth 1;trait b worth 1;trait c worth 1;trait d worth 1;person p is a b d;person q is b c;"
            + "person r is a c d;");
        Check.fine("two", x, x.cover(), 2);
        Check.fine("a and b", x, x.coverSet(), 3);
        x.teach(0, 0, false);
        Check.fine("a and b still", x, x.coverSet(), 3);
        x.teach(1, 3, true);
        Check.fine("d alone, though a greater number", x, x.cover(), 1);
        Check.fine("d", x, x.coverSet(), 8);
    }

    private static void promise38_blamedForNone() {
        TinFen nobody = new TinFen();
        Check.fine("of nobody", nobody, nobody.blamed(), 0);
        TinFen x = Check.ann();
        x.drop(2);
        x.drop(0);
        Check.fine("GONE, not FOUND", x, x.blamed(), 0);
        Check.fine("GONE, not FOUND", x, x.blamedSet(), 0);
        x.bite(3);
        Check.fine("one", x, x.blamed(), 1);
    }

    private static void promise38_blamedAllSeven() {
        TinFen x = Check.of("trait t worth 1;person a;person b;person c;person d;person e;person f;person g;");
        for (int p = 0; p < 7; p++) {
            x.strike(0, p, true);
            x.bite(p);
            Check.fine("how many", x, x.blamed(), p + 1);
            Check.fine("the set", x, x.blamedSet(), (2 << p) - 1);
        }
    }

    private static void promise39_blamedSetIsTheLeastOfTheFewest() {
        TinFen nobody = new TinFen();
        Check.fine("of nobody", nobody, nobody.blamedSet(), 0);
        TinFen x = Check.of("trait t worth 1;person a is t;person b is t;person c is t;person d is t;"
            + "tin x of t on d lead;tin y of t on a lead;tin z of t on b lead;");
        x.recite(0, 1);
        x.bite(0);
        Check.fine("b is less than d", x, x.blamedSet(), 2);
        x.recite(1, 3);
        x.bite(1);
        Check.fine("d alone is fewer than a and b", x, x.blamedSet(), 8);
        x.bite(2);
        Check.fine("two", x, x.blamed(), 2);
        Check.fine("a and b are less than b and d", x, x.blamedSet(), 3);
    }

    private static void promise40_wheelsOf2To7() {
        for (int n : new int[] {MIN, -7, -1, 0, 1, 8, 9, 32, MAX}) {
            Edges.refuses("wheels(" + n + ")", Edges.RICH, 5, x -> x.wheels(n));
            Edges.refuses("wheels(" + n + ") of nobody", Edges.EMPTY, 5, x -> x.wheels(n));
        }
        TinFen nobody = new TinFen();
        for (int n = 2; n <= 7; n++) {
            Check.fine("of nobody", nobody, nobody.wheels(n), 0);
        }
    }

    /** Seven in a ring, each with a TIN: two WHEELS of seven, one each way round; seven of two. */
    private static void promise40_wheelsOfSeven() {
        StringBuilder text = new StringBuilder("trait t worth 1;");
        for (char c = 'a'; c <= 'g'; c++) {
            text.append("person ").append(c).append(" is t;tin n").append(c).append(" of t on ").append(c).append(';');
        }
        for (char c = 'a'; c <= 'g'; c++) {
            text.append("lane ").append(c).append(' ').append(c == 'g' ? 'a' : (char) (c + 1)).append(';');
        }
        TinFen x = Check.of(text.toString());
        int[] due = {0, 0, 7, 0, 0, 0, 0, 2};
        for (int n = 2; n <= 7; n++) {
            Check.fine("wheels of " + n, x, x.wheels(n), due[n]);
        }
        x.strike(0, 0, false);
        Check.fine("a second TIN makes no other WHEEL", x, x.wheels(7), 2);
        x.drop(6);
        Check.fine("g has nothing to PASS", x, x.wheels(7), 0);
        Check.fine("five pairs are left", x, x.wheels(2), 5);
    }

    /** One who has a TIN of which the TRAIT is not TRUE of the next one can't turn the WHEEL. */
    private static void promise40_eachHasATinThatCanBePassedSo() {
        TinFen x = Check.of("trait t worth 1;trait u worth 1;person p is t;person q is u;lane p q;tin a of u on p;tin b of u on q;");
        Check.fine("u is not TRUE of p", x, x.wheels(2), 0);
        x.strike(0, 1, true);
        Check.fine("LEAD passes, too", x, x.wheels(2), 1);
        x.bite(2);
        Check.fine("GONE", x, x.wheels(2), 0);
    }

    // ---- what was seen

    private interface Asked {
        int of(TinFen x, int tray, int n);
    }

    private static final Asked[] CALLS = {TinFen::whose, TinFen::sure, TinFen::ask};

    private static Edges.Maker seen(int tins, long... numbers) {
        return () -> {
            TinFen x = Edges.FULL.make();
            x.tray(0, 3, tins);
            for (int i = 0; i < numbers.length && i < tins; i++) {
                x.write(0, i, numbers[i]);
            }
            return x;
        };
    }

    private static final long[] ALL_SEVEN = {0, 6, 1, 6, 2, 6, 3, 6, 4, 6, 5, 6, 6, 6, 7, 7};

    private static void refused(String what, Edges.Maker maker, int n, int status) {
        for (Asked call : CALLS) {
            Edges.refuses(what, maker, status, x -> call.of(x, 0, n));
        }
    }

    private static void promise41_theFirst0To7Twos() {
        for (int n : new int[] {MIN, -1}) {
            refused("below 0", seen(16, ALL_SEVEN), n, 5);
            refused("below 0, a TRAY of none", seen(0), n, 5);
        }
        refused("8 twos", seen(16, ALL_SEVEN), 8, 5);
        refused("8 twos", seen(60, ALL_SEVEN), 8, 5);
        refused("30 twos", seen(60, ALL_SEVEN), 30, 5);
        refused("31 twos", seen(60, ALL_SEVEN), 31, 4);
        refused("very many", seen(60, ALL_SEVEN), MAX, 4);
        refused("as many as wrap around to 0", seen(60, ALL_SEVEN), 1 << 30, 4);
        refused("half a two", seen(13, ALL_SEVEN), 7, 4);
        refused("one two of none", seen(0), 1, 4);
        refused("one two of one number", seen(1, 0), 1, 4);
        TinFen x = seen(14, ALL_SEVEN).make();
        Check.fine("all seven", x, x.whose(0, 7), 1);
        Check.fine("none", x, x.whose(0, 0), 64);
        TinFen y = seen(0).make();
        Check.fine("none, of a TRAY of none", y, y.whose(0, 0), 64);
    }

    private static void promise41_numbersThatCantBe() {
        for (long p : new long[] {Long.MIN_VALUE, -1, 7, 8, 256, 1L << 32, Long.MAX_VALUE}) {
            refused("no such PERSON", seen(4, p, 1), 1, 5);
            refused("no such PERSON, second", seen(4, 0, 1, p, 1), 2, 5);
        }
        for (long v : new long[] {Long.MIN_VALUE, -1, 7, 8, 256, 1L << 32, Long.MAX_VALUE}) {
            refused("no such number", seen(4, 0, v), 1, 5);
            refused("no such number, second", seen(4, 0, 1, 1, v), 2, 5);
        }
        refused("a PERSON twice", seen(4, 3, 1, 3, 1), 2, 5);
        refused("a PERSON twice, far apart", seen(14, 0, 6, 1, 6, 2, 6, 3, 6, 4, 6, 5, 6, 0, 6), 7, 5);
        TinFen x = seen(14, 0, 6, 1, 6, 2, 6, 3, 6, 4, 6, 5, 6, 0, 6).make();
        Check.fine("behind the first n nothing counts", x, x.whose(0, 6), 1);
        TinFen y = seen(4, 6, 0, -1, -1).make();
        Check.fine("behind the first n nothing counts", y, y.whose(0, 1), 1);
    }

    private static void promise41_howManySets() {
        int[] due = {1, 6, 15, 20, 15, 6, 1};
        for (int k = 0; k <= 6; k++) {
            TinFen x = seen(2, 6, k).make();
            Check.fine(k + " of six", x, x.whose(0, 1), due[k]);
        }
        TinFen x = Check.of("trait t worth 1;person p;");
        x.tray(0, 0, 2);
        Check.fine("0 of him of whom nothing is TRUE", x, x.whose(0, 1), 2);
        for (int k = 1; k <= 6; k++) {
            x.write(0, 1, k);
            Check.fine(k + " of him of whom nothing is TRUE", x, x.whose(0, 1), 0);
        }
        TinFen nobody = new TinFen();
        nobody.tray(1, 0, 0);
        Check.fine("the empty set, of no TRAITS", nobody, nobody.whose(1, 0), 1);
        nobody.tray(1, 0, 2);
        Check.refused("of nobody", nobody, nobody.whose(1, 1), 5);
    }

    private static void promise42_sureOfNone() {
        Edges.Maker none = seen(4, 0, 1, 1, 2);
        TinFen x = none.make();
        Check.fine("there are none", x, x.whose(0, 2), 0);
        Edges.refuses("there are none", none, 8, y -> y.sure(0, 2));
    }

    private static void promise42_sureOfTheEmptySet() {
        TinFen x = seen(2, 0, 0).make();
        Check.fine("the empty set alone", x, x.whose(0, 1), 1);
        Check.fine("nothing is in it", x, x.sure(0, 1), 0);
        TinFen y = seen(2, 0, 6).make();
        Check.fine("all six", y, y.sure(0, 1), 63);
        TinFen z = seen(2, 0, 5).make();
        Check.fine("in all of six sets", z, z.sure(0, 1), 0);
        Check.fine("no twos", z, z.sure(0, 0), 0);
    }

    private static void promise43_askOfFewerThanTwoSets() {
        Edges.refuses("one set", seen(2, 0, 6), 8, x -> x.ask(0, 1));
        Edges.refuses("one set", seen(2, 0, 0), 8, x -> x.ask(0, 1));
        Edges.refuses("no set", seen(4, 0, 1, 1, 2), 8, x -> x.ask(0, 2));
        TinFen x = Check.of("trait t worth 1;trait u worth 1;person p is t;person q is u;");
        x.tray(0, 0, 4);
        Check.fine("two sets", x, x.whose(0, 1), 2);
        Check.fine("q is left", x, x.ask(0, 1), 1);
    }

    private static void promise43_askWhereNobodyIsLeft() {
        long[] three = {0, 3, 1, 3, 2, 3, 3, 3, 4, 3, 5, 3, 6, 3};
        Edges.refuses("nobody is left, of twenty sets", seen(14, three), 8, x -> x.ask(0, 7));
        TinFen x = seen(14, three).make();
        Check.fine("twenty sets", x, x.whose(0, 7), 20);
        for (int n = 0; n < 7; n++) {
            Check.fine("the first who is not told", x, x.ask(0, n), n);
        }
        Edges.refuses("nobody at all", () -> {
            TinFen y = Check.of("trait t worth 1;");
            y.tray(0, 0, 0);
            return y;
        }, 8, y -> y.ask(0, 0));
    }

    /** "the most with one number are the fewest; of several the first". */
    private static void promise43_askHimWhoPartsThemTheBest() {
        TinFen x = Check.of("trait a worth 1;trait b worth 1;trait c worth 1;trait d worth 1;person p;person q is a;"
            + "person r is a b c d;person s is a b c;person t is b c d;");
        x.tray(0, 0, 4);
        // of 16 sets p parts 16, q 8 and 8, r 1 4 6 4 1, s and t 2 6 6 2
        Check.fine("r, s and t have 6 at the most: r is the first", x, x.ask(0, 0), 2);
        x.write(0, 0, 2);
        x.write(0, 1, 2);
        // of the six sets of two q parts 3 and 3, s and t 3 (two of three) and 3 (one of three)
        Check.fine("q, s and t have 3: q is the first", x, x.ask(0, 1), 1);
        x.write(0, 2, 1);
        x.write(0, 3, 1);
        // of ab, ac, ad p parts 3, s 2 and 1, t 3
        Check.fine("s has 2 at the most", x, x.ask(0, 2), 3);
    }

    // ---- games

    private static void promise44_gameOf0To3Turns() {
        for (int turns : new int[] {MIN, -1, 4, 5, MAX}) {
            Edges.refuses("turns " + turns, Edges.RICH, 5, x -> x.game(1, 2, turns));
        }
        TinFen x = Edges.RICH.make();
        Check.fine("no turns", x, x.game(1, 2, 0), 0);
        for (int turns = 1; turns <= 3; turns++) {
            Check.fine("turns", x, x.game(1, 2, turns), turns == 2 ? 0 : 9);
        }
    }

    private static void promise44_gameOfOneAndHimself() {
        for (int i = 0; i < 4; i++) {
            int p = i;
            for (int turns : new int[] {MIN, 0, 1, 3, 4}) {
                Edges.refuses("himself", Edges.RICH, 5, x -> x.game(p, p, turns));
            }
        }
        for (int p : NO_PERSON) {
            Edges.refuses("no such PERSON", Edges.RICH, 2, x -> x.game(p, 0, 1));
            Edges.refuses("no such other", Edges.RICH, 2, x -> x.game(0, p, 1));
            Edges.refuses("neither", Edges.RICH, 2, x -> x.game(p, p, 9));
        }
    }

    private static void promise44_statusTellsNoneFromMinusOne() {
        TinFen x = Check.of("trait t worth 1;person p;person q;person r is t;lane q r;tin a of t on q;");
        Check.fine("q has GOT 1 more", x, x.game(0, 1, 2), -1);
        Check.fine("no turn of q's", x, x.game(0, 1, 1), 0);
        Check.refused("NONE", x, x.game(0, 0, 2), 5);
    }

    private static void promise44_theLargestOfAll() {
        TinFen x = Check.of("trait t worth 99;person p;person q;person r is t;lane p r;tin a of t on p;tin b of t on p;");
        Check.fine("99", x, x.game(0, 1, 1), 99);
        Check.fine("99 twice", x, x.game(0, 1, 3), 198);
        Check.fine("q loses 99", x, x.game(1, 0, 2), -99);
        Check.fine("p alone has a turn between", x, x.game(1, 0, 3), -99);
    }

    private static void promise45_moveOf() {
        for (int turns : new int[] {MIN, -1, 0, 4, MAX}) {
            Edges.refuses("turns " + turns, Edges.RICH, 5, x -> x.moveOf(1, 2, turns, 0));
        }
        for (int what : new int[] {MIN, -1, 2, 3, MAX}) {
            Edges.refuses("what " + what, Edges.RICH, 5, x -> x.moveOf(1, 2, 1, what));
            Edges.refuses("what " + what + ", nothing to spend", Edges.RICH, 5, x -> x.moveOf(3, 2, 1, what));
        }
        for (int p : NO_PERSON) {
            Edges.refuses("no such PERSON", Edges.RICH, 2, x -> x.moveOf(p, 0, 1, 0));
            Edges.refuses("no such other", Edges.RICH, 2, x -> x.moveOf(0, p, 0, 9));
        }
        Edges.refuses("himself", Edges.RICH, 5, x -> x.moveOf(1, 1, 1, 0));
        for (int turns = 1; turns <= 3; turns++) {
            int n = turns;
            Edges.refuses("nothing", Edges.RICH, 8, x -> x.moveOf(3, 2, n, 0));
            Edges.refuses("nothing", Edges.RICH, 8, x -> x.moveOf(3, 2, n, 1));
        }
        TinFen x = Edges.RICH.make();
        Check.fine("c", x, x.moveOf(1, 2, 1, 0), 2);
        Check.fine("to cyd, the only one", x, x.moveOf(1, 2, 1, 1), 2);
    }

    /** "of all that are as good the first by TIN, then PERSON; nothing comes last". */
    private static void promise45_theFirstOfAllThatAreAsGood() {
        TinFen x = Check.of("trait t worth 0;trait u worth 4;person p;person q is t;person r is t u;person s is t u;"
            + "lane p s;lane p r;tin a of u on s;tin b of t on p;tin c of u on p;tin d of u on p;");
        Check.fine("4", x, x.game(0, 1, 1), 4);
        Check.fine("c ahead of d", x, x.moveOf(0, 1, 1, 0), 2);
        Check.fine("r ahead of s", x, x.moveOf(0, 1, 1, 1), 2);
        x.drop(2);
        x.drop(3);
        Check.fine("0", x, x.game(0, 1, 1), 0);
        Check.fine("b, worth 0, ahead of nothing", x, x.moveOf(0, 1, 1, 0), 1);
        Check.fine("to r", x, x.moveOf(0, 1, 1, 1), 2);
        x.drop(1);
        Check.refused("nothing is left", x, x.moveOf(0, 1, 1, 0), 8);
    }

    /** TIN 0 and PERSON 0 are as good as any other, and what was PASSED can be PASSED on. */
    private static void promise45_tin0ToPerson0() {
        TinFen x = Check.of("trait t worth 4;trait u worth 3;person p is t;person q is t;person r is u;lane p q;lane p r;"
            + "tin a of t on q;tin b of u on p;");
        Check.fine("q spends a on p", x, x.game(1, 2, 1), 4);
        Check.fine("a", x, x.moveOf(1, 2, 1, 0), 0);
        Check.fine("to p", x, x.moveOf(1, 2, 1, 1), 0);
        Check.fine("p gives it back", x, x.game(1, 0, 2), 0);
        Check.fine("p spends b, worth 3, and keeps a", x, x.game(1, 0, 3), 1);
        x.drop(1);
        Check.fine("p keeps a", x, x.game(1, 0, 3), 4);
        Check.fine("p has nothing to spend but what q gives him", x, x.game(0, 1, 2), -4);
        Check.fine("then p gives it back in the last turn", x, x.game(0, 1, 3), 0);
        Check.refused("p has nothing", x, x.moveOf(0, 1, 3, 0), 8);
    }

    private static void promise45_nothingIsBetter() {
        // what p gives to q, q spends on r: p waits for the last turn
        TinFen x = Check.of("trait v worth 4;person p;person q is v;person r is v;lane p q;lane q r;tin a of v on p;");
        Check.fine("4 and 4 lost", x, x.game(0, 1, 2), 0);
        Check.fine("as good as nothing, and ahead of it", x, x.moveOf(0, 1, 2, 0), 0);
        Check.fine("in the last turn", x, x.game(0, 1, 3), 4);
        Check.refused("nothing", x, x.moveOf(0, 1, 3, 0), 8);
        Check.refused("nothing", x, x.moveOf(0, 1, 3, 1), 8);
        Check.fine("at once, of one turn", x, x.moveOf(0, 1, 1, 1), 1);
    }

    // ---- odds

    private static TinFen leads(int odds, int lead) {
        TinFen x = Check.of("odds " + odds + ";trait t worth 1;person p;person q;");
        for (int i = 0; i < lead; i++) {
            x.strike(0, 0, true);
        }
        return x;
    }

    private static void promise46_bitesOf0To9() {
        for (int k : new int[] {MIN, -1, 10, 11, 16, 32, MAX}) {
            Edges.denies("k " + k, Edges.RICH, 5, x -> x.bites(1, k));
        }
        for (int p : NO_PERSON) {
            Edges.denies("no such PERSON", Edges.RICH, 2, x -> x.bites(p, 0));
            Edges.denies("no such PERSON", Edges.RICH, 2, x -> x.bites(p, 10));
        }
        TinFen x = leads(8, 0);
        Check.fraction("0 or more of none", x, x.bites(0, 0), 1, 1);
        for (int k = 1; k <= 9; k++) {
            Check.fraction("more of none", x, x.bites(0, k), 0, 1);
        }
    }

    private static void promise46_bitesOfNine() {
        TinFen half = leads(8, 9);
        Check.fraction("all nine by half", half, half.bites(0, 9), 1, 512);
        Check.fraction("eight or more", half, half.bites(0, 8), 5, 256);
        Check.fraction("five or more", half, half.bites(0, 5), 1, 2);
        Check.fraction("one or more", half, half.bites(0, 1), 511, 512);
        TinFen x = leads(15, 9);
        Check.fraction("all nine", x, x.bites(0, 9), 38443359375L, 1L << 36);
        Check.fraction("eight or more", x, x.bites(0, 8), 7688671875L, 1L << 33);
        Check.fraction("q has none", x, x.bites(1, 1), 0, 1);
        TinFen one = leads(1, 9);
        Check.fraction("all nine", one, one.bites(0, 9), 1, 1L << 36);
        Check.fraction("one or more", one, one.bites(0, 1), (1L << 36) - 38443359375L, 1L << 36);
    }

    private static void promise46_oddsOf0And16() {
        TinFen never = leads(0, 9);
        TinFen surely = leads(16, 9);
        for (int k = 0; k <= 9; k++) {
            Check.fraction("never", never, never.bites(0, k), k == 0 ? 1 : 0, 1);
            Check.fraction("surely", surely, surely.bites(0, k), 1, 1);
        }
        surely.drop(4);
        Check.fraction("eight are left", surely, surely.bites(0, 8), 1, 1);
        Check.fraction("no nine", surely, surely.bites(0, 9), 0, 1);
        surely.strike(0, 0, false);
        Check.fraction("a sound one is none of them", surely, surely.bites(0, 9), 0, 1);
    }

    private static void promise47_share() {
        for (int p : NO_PERSON) {
            Edges.denies("no such PERSON", Edges.RICH, 2, x -> x.share(p));
        }
        TinFen x = Edges.RICH.make();
        Check.fraction("ann", x, x.share(0), 1, 10);
        Check.fraction("ben", x, x.share(1), 9, 20);
        Check.fraction("cyd", x, x.share(2), 9, 20);
        Check.fraction("dot has nothing", x, x.share(3), 0, 1);
        x.drop(2);
        x.drop(4);
        Check.fraction("all", x, x.share(0), 1, 1);
    }

    private static void promise47_allAreWorth0Together() {
        Edges.denies("no TINS", () -> Check.of("person p;"), 8, x -> x.share(0));
        Edges.denies("worth 0", () -> Check.of("trait t worth 0;person p;tin a of t on p;"), 8, x -> x.share(0));
        Edges.denies("all GONE", () -> {
            TinFen x = Check.of("trait t worth 5;person p;tin a of t on p;");
            x.drop(0);
            return x;
        }, 8, x -> x.share(0));
        TinFen x = Check.of("trait t worth 0;trait u worth 1;person p;person q;tin a of t on p;tin b of u on q;");
        Check.fraction("p has what is worth 0", x, x.share(0), 0, 1);
        Check.fraction("q has all", x, x.share(1), 1, 1);
    }
}
