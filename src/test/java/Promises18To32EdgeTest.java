/** The boundaries that section 2 and promises 18 to 32 name: what is done, and ways of a TIN. */
public final class Promises18To32EdgeTest {
    private static final int MIN = Integer.MIN_VALUE;
    private static final int MAX = Integer.MAX_VALUE;
    private static final int[] NO_TIN = {MIN, -1, 5, 9, 32, MAX};
    private static final int[] NO_PERSON = {MIN, -1, 4, 7, 32, MAX};
    private static final int[] NO_TRAIT = {MIN, -1, 3, 6, 32, MAX};

    /** p has x, of whom its TRAIT is not TRUE, nor is it of s; of q, r it is. */
    private static final String SMALL = "trait t worth 6;trait u worth 0;person p;person q is t u;person r is t;person s is u;"
        + "tin x of t on p;tin y of u on q lead;";

    public static void main(String[] args) {
        Edges.runAll(Promises18To32EdgeTest.class);
    }

    // ---- section 2: PASS, BITE, READ

    private static void section2_aTinIsOnAPersonOrGone() {
        TinFen x = Check.of(SMALL);
        Check.fine("ON p", x, x.tin(0, 1), 0);
        x.drop(0);
        Check.refused("GONE", x, x.tin(0, 1), 8);
        Check.fine("GONE", x, x.many(6), 1);
        Check.fine("READ", x, x.recite(0, 2));
        Check.fine("ON r", x, x.tin(0, 1), 2);
        Check.fine("none GONE", x, x.many(6), 0);
    }

    private static void section2_passToAnotherOneWhomHeMeets() {
        Edges.Maker apart = () -> Check.of(SMALL);
        Edges.Maker together = () -> Check.of(SMALL + "lane p q;lane p s;");
        Edges.refuses("they do not MEET", apart, 9, x -> x.pass(0, 1));
        Edges.refuses("to himself", together, 9, x -> x.pass(0, 0));
        Edges.refuses("to himself, of whom it is TRUE", together, 9, x -> x.pass(1, 1));
        Edges.refuses("one whom q alone MEETS", () -> Check.of(SMALL + "lane p q;lane q r;"), 9, x -> x.pass(0, 2));
        TinFen x = together.make();
        Check.fine("he MEETS him", x, x.pass(0, 1), 6);
        TinFen y = Check.of(SMALL + "lane q p;");
        Check.fine("a LANE goes both ways", y, y.pass(0, 1), 6);
    }

    private static void section2_passToOneOfWhomItIsTrue() {
        Edges.Maker maker = () -> Check.of(SMALL + "lane p q;lane p s;");
        Edges.refuses("not TRUE of s", maker, 9, x -> x.pass(0, 3));
        TinFen x = maker.make();
        Check.fine("TRUE of q, though not of p who gives", x, x.pass(0, 1), 6);
        Check.refused("not TRUE of p", x, x.pass(0, 0), 9);
        x.teach(0, 0, true);
        Check.fine("TRUE of p now", x, x.pass(0, 0), 6);
    }

    private static void section2_whoGaveHasGotItsWorth() {
        TinFen x = Check.of(SMALL + "lane p q;lane q s;");
        Check.fine("6", x, x.pass(0, 1), 6);
        Check.fine("p", x, x.person(0, 3), 6);
        Check.fine("q got nothing", x, x.person(1, 3), 0);
        Check.fine("LEAD passes, too, worth 0", x, x.pass(1, 3), 0);
        Check.fine("PASSES", x, x.many(5), 2);
        x.teach(0, 0, true);
        x.price(0, 99);
        Check.fine("99", x, x.pass(0, 0), 99);
        Check.fine("p as ahead", x, x.person(0, 3), 6);
    }

    private static void section2_theOtherOneHasHeldItNow() {
        TinFen x = Check.of(SMALL + "lane p q;");
        Check.fine("p", x, x.tin(0, 3), 1);
        x.pass(0, 1);
        Check.fine("p and q", x, x.tin(0, 3), 3);
        x.recite(0, 2);
        Check.fine("p, q and r", x, x.tin(0, 3), 7);
    }

    private static void section2_aBiteFindsLeadWhateverTheOdds() {
        for (int odds : new int[] {0, 16}) {
            TinFen x = Check.of(SMALL);
            x.rule(odds);
            Check.fine("FOUND", x, x.bite(1), 1);
            Check.fine("FOUND", x, x.many(7), 2);
            Check.fine("GONE then", x, x.many(6), 2);
        }
    }

    private static void section2_aSoundOneStays() {
        Edges.leavesAll("bite of a sound one", () -> Check.of(SMALL), x -> x.bite(0));
        TinFen x = Check.of(SMALL);
        Check.fine("sound", x, x.bite(0), 0);
        Check.fine("sound again", x, x.bite(0), 0);
    }

    private static void section2_readWhoeverHadItGoneOrNot() {
        TinFen x = Check.of(SMALL);
        Check.fine("without a LANE", x, x.recite(0, 1));
        Check.fine("nobody GOT anything", x, x.person(0, 3), 0);
        Check.fine("no PASS", x, x.many(5), 0);
        Check.fine("not PASSED", x, x.tin(0, 4), 0);
        x.drop(1);
        Check.fine("LEAD that is GONE, but not FOUND", x, x.recite(1, 3));
        Check.fine("it is of LEAD still", x, x.bite(1), 1);
        Check.refused("FOUND", x, x.recite(1, 1), 9);
    }

    // ---- promises 18 to 26

    private static void promise18_passOfWhatThereIsNone() {
        for (int t : NO_TIN) {
            Edges.refuses("pass(" + t + ", 1)", Edges.RICH, 2, x -> x.pass(t, 1));
        }
        for (int p : NO_PERSON) {
            Edges.refuses("pass(1, " + p + ")", Edges.RICH, 2, x -> x.pass(1, p));
            Edges.refuses("pass(0, " + p + "), GONE", Edges.RICH, 2, x -> x.pass(0, p));
        }
    }

    private static void promise18_passOfATinThatIsGone() {
        for (int p = 0; p < 4; p++) {
            int who = p;
            Edges.refuses("thrown away", Edges.RICH, 9, x -> x.pass(0, who));
            Edges.refuses("FOUND", Edges.RICH, 9, x -> x.pass(3, who));
        }
    }

    private static void promise18_whatTheGiverHasGotThen() {
        TinFen x = Check.of("trait t worth 99;person p is t;person q is t;lane p q;tin a of t on p;");
        for (int i = 1; i <= 100; i++) {
            Check.fine("p", x, x.pass(0, 1), 99 * i);
            Check.fine("q", x, x.pass(0, 0), 99 * i);
        }
        Check.fine("PASSED", x, x.tin(0, 4), 200);
        Check.fine("PASSES", x, x.many(5), 200);
    }

    private static void promise19_bite() {
        for (int t : NO_TIN) {
            Edges.refuses("bite(" + t + ")", Edges.RICH, 2, x -> x.bite(t));
        }
        Edges.refuses("thrown away", Edges.RICH, 9, x -> x.bite(0));
        Edges.refuses("FOUND", Edges.RICH, 9, x -> x.bite(3));
        Edges.refuses("LEAD that was thrown away", () -> {
            TinFen x = Edges.RICH.make();
            x.drop(2);
            return x;
        }, 9, x -> x.bite(2));
        TinFen x = Edges.RICH.make();
        Check.fine("1, FOUND", x, x.bite(2), 1);
        Check.fine("0, sound", x, x.bite(1), 0);
        Check.fine("1, struck of LEAD", x, x.bite(4), 1);
    }

    private static void promise20_recite() {
        for (int t : NO_TIN) {
            Edges.denies("recite(" + t + ", 1)", Edges.RICH, 2, x -> x.recite(t, 1));
        }
        for (int p : NO_PERSON) {
            Edges.denies("recite(1, " + p + ")", Edges.RICH, 2, x -> x.recite(1, p));
            Edges.denies("recite(3, " + p + "), FOUND", Edges.RICH, 2, x -> x.recite(3, p));
        }
        Edges.denies("FOUND", Edges.RICH, 9, x -> x.recite(3, 1));
        Edges.denies("FOUND, to him who had it", Edges.RICH, 9, x -> x.recite(3, 3));
        Edges.denies("not TRUE of him", Edges.RICH, 9, x -> x.recite(1, 2));
        Edges.denies("GONE, not TRUE of him", Edges.RICH, 9, x -> x.recite(0, 1));
        Edges.denies("ON him", Edges.RICH, 9, x -> x.recite(1, 0));
        TinFen x = Edges.RICH.make();
        Check.fine("GONE", x, x.recite(0, 2));
        Check.fine("from one to another", x, x.recite(1, 3));
    }

    private static void promise20_onHimOfWhomItIsNotTrueAnyMore() {
        Edges.denies("ON him", () -> {
            TinFen x = Edges.RICH.make();
            x.teach(0, 1, false);
            return x;
        }, 9, x -> x.recite(1, 0));
    }

    private static void promise21_drop() {
        for (int t : NO_TIN) {
            Edges.refuses("drop(" + t + ")", Edges.RICH, 2, x -> x.drop(t));
        }
        Edges.refuses("thrown away", Edges.RICH, 9, x -> x.drop(0));
        Edges.refuses("FOUND", Edges.RICH, 9, x -> x.drop(3));
        TinFen x = Edges.RICH.make();
        Check.fine("a sound one, who had it", x, x.drop(1), 0);
        Check.fine("one of LEAD, who had it", x, x.drop(2), 1);
        Check.fine("GONE", x, x.many(6), 1 + 2 + 4 + 8);
        Check.fine("not FOUND by that", x, x.many(7), 8);
        Check.refused("once more", x, x.drop(2), 9);
        Check.fine("READ and dropped again", x, x.recite(2, 2));
        Check.fine("who had it", x, x.drop(2), 2);
    }

    private static void promise22_strikeUpToNine() {
        for (int t : NO_TRAIT) {
            Edges.refuses("strike(" + t + ", 0)", Edges.RICH, 2, x -> x.strike(t, 0, true));
        }
        for (int p : NO_PERSON) {
            Edges.refuses("strike(0, " + p + ")", Edges.RICH, 2, x -> x.strike(0, p, false));
        }
        TinFen x = Edges.RICH.make();
        for (int i = 5; i < 9; i++) {
            Check.fine("its number", x, x.strike(i % 3, i % 4, i % 2 == 0), i);
            Check.fine("its TRAIT", x, x.tin(i, 0), i % 3);
            Check.fine("who has it", x, x.tin(i, 1), i % 4);
            Check.fine("LEAD or sound", x, x.tin(i, 2), i % 2 == 0 ? 1 : 0);
            Check.fine("HELD by him", x, x.tin(i, 3), 1 << i % 4);
            Check.fine("not PASSED", x, x.tin(i, 4), 0);
        }
        Check.refused("a tenth", x, x.strike(0, 0, true), 7);
        Check.fine("nine", x, x.many(3), 9);
        Edges.refuses("a tenth of LEAD", Edges.FULL, 7, y -> y.strike(5, 6, true));
        Edges.refuses("a tenth, sound", Edges.FULL, 7, y -> y.strike(0, 0, false));
    }

    private static void promise22_whatIsGoneCountsAmongTheNine() {
        Edges.refuses("nine are GONE", () -> {
            TinFen x = Edges.FULL.make();
            for (int t = 0; t < 9; t++) {
                x.drop(t);
            }
            return x;
        }, 7, x -> x.strike(0, 0, false));
    }

    private static void promise22_struckInPlaceOfOneTakenBack() {
        TinFen x = Check.of(SMALL);
        x.mark();
        Check.fine("LEAD", x, x.strike(0, 0, true), 2);
        x.bite(2);
        x.back();
        Check.fine("sound", x, x.strike(0, 1, false), 2);
        Check.fine("sound", x, x.tin(2, 2), 0);
        Check.fine("not GONE", x, x.many(6), 0);
        Check.fine("HELD by q", x, x.tin(2, 3), 2);
    }

    private static void promise23_teach() {
        for (int p : NO_PERSON) {
            Edges.denies("teach(" + p + ", 0)", Edges.RICH, 2, x -> x.teach(p, 0, true));
            Edges.denies("teach(" + p + ", 0) not", Edges.RICH, 2, x -> x.teach(p, 0, false));
        }
        for (int t : NO_TRAIT) {
            Edges.denies("teach(0, " + t + ")", Edges.RICH, 2, x -> x.teach(0, t, true));
            Edges.denies("teach(0, " + t + ") not", Edges.RICH, 2, x -> x.teach(0, t, false));
        }
        Edges.denies("it is so", Edges.RICH, 9, x -> x.teach(0, 0, true));
        Edges.denies("it is not, as asked", Edges.RICH, 9, x -> x.teach(0, 2, false));
        TinFen full = Edges.FULL.make();
        Check.fine("the last of both", full, full.teach(6, 5, false));
        Check.fine("the others stay", full, full.person(6, 0), 31);
        Check.fine("and back", full, full.teach(6, 5, true));
        Check.fine("all", full, full.person(6, 0), 63);
    }

    private static void promise24_laneUpToTwelve() {
        for (int p : NO_PERSON) {
            Edges.refuses("lane(" + p + ", 0)", Edges.RICH, 2, x -> x.lane(p, 0));
            Edges.refuses("lane(0, " + p + ")", Edges.RICH, 2, x -> x.lane(0, p));
            Edges.refuses("lane(" + p + ", " + p + ")", Edges.RICH, 2, x -> x.lane(p, p));
        }
        for (int i = 0; i < 4; i++) {
            int p = i;
            Edges.refuses("one and himself", Edges.RICH, 5, x -> x.lane(p, p));
        }
        TinFen x = Edges.RICH.make();
        for (int i = 5; i <= 12; i++) {
            Check.fine("how many there are", x, x.lane(3, 0), i);
        }
        Check.refused("a 13th", x, x.lane(3, 0), 7);
        Check.refused("a 13th between others", x, x.lane(1, 3), 7);
        Check.refused("a 13th, one and himself", x, x.lane(3, 3), 5);
        Check.fine("they MEET", x, x.person(3, 1), 5);
        Check.fine("they do not", x, x.person(1, 1), 5);
    }

    private static void promise25_priceFrom0To99() {
        for (int t : NO_TRAIT) {
            Edges.denies("price(" + t + ", 5)", Edges.RICH, 2, x -> x.price(t, 5));
        }
        for (int worth : new int[] {MIN, -1, 100, 9999, MAX}) {
            Edges.denies("price(0, " + worth + ")", Edges.RICH, 5, x -> x.price(0, worth));
        }
        for (int worth : new int[] {0, 1, 98, 99}) {
            TinFen x = Edges.RICH.make();
            Check.fine("price", x, x.price(2, worth));
            Check.fine("worth", x, x.worth(2), worth);
            Check.fine("WORTH ON ben", x, x.person(1, 4), worth);
        }
    }

    private static void promise26_ruleFrom0To16() {
        for (int odds : new int[] {MIN, -1, 17, 9999, MAX}) {
            Edges.denies("rule(" + odds + ")", Edges.RICH, 5, x -> x.rule(odds));
            Edges.denies("rule(" + odds + ")", Edges.EMPTY, 5, x -> x.rule(odds));
        }
        for (int odds : new int[] {0, 1, 15, 16}) {
            TinFen x = Edges.RICH.make();
            Check.fine("rule", x, x.rule(odds));
            Check.fine("ODDS", x, x.many(4), odds);
        }
        TinFen x = new TinFen();
        Check.fine("of nobody, too", x, x.rule(3));
        Check.fine("ODDS", x, x.many(4), 3);
        Check.fen(x, "person p;");
        Check.fine("8 without, in the next FEN", x, x.many(4), 8);
    }

    // ---- promises 27 to 32

    /** A row of seven, from the last to the first; t is TRUE of all but g, who has x. */
    private static TinFen row() {
        return Check.of("trait t worth 1;person a is t;person b is t;person c is t;person d is t;person e is t;person f is t;"
            + "person g;tin x of t on g;lane g f;lane f e;lane e d;lane d c;lane c b;lane b a;");
    }

    private static void promise27_wayOf0HeHasIt() {
        TinFen x = row();
        Check.fine("he has it, though it is not TRUE of him", x, x.way(0, 6), 0);
        Check.fine("behind 0 PASSES", x, x.wayAt(0, 6, 0), 6);
        Check.refused("behind 1", x, x.wayAt(0, 6, 1), 8);
    }

    private static void promise27_wayOfSixPasses() {
        TinFen x = row();
        for (int p = 0; p < 7; p++) {
            Check.fine("way", x, x.way(0, p), 6 - p);
        }
        x.pass(0, 5);
        Check.refused("not back to g", x, x.way(0, 6), 8);
    }

    private static void promise27_noWay() {
        Edges.Maker cut = () -> {
            TinFen x = row();
            x.teach(3, 0, false);
            return x;
        };
        TinFen x = cut.make();
        Check.fine("up to e", x, x.way(0, 4), 2);
        for (int p = 0; p <= 3; p++) {
            int who = p;
            Edges.refuses("not TRUE of d", cut, 8, y -> y.way(0, who));
        }
        Edges.refuses("no LANE", () -> Check.of(SMALL), 8, y -> y.way(0, 1));
    }

    private static void promise27_wayOfWhatThereIsNone() {
        for (int t : NO_TIN) {
            Edges.refuses("way(" + t + ", 0)", Edges.RICH, 2, x -> x.way(t, 0));
        }
        for (int p : NO_PERSON) {
            Edges.refuses("way(1, " + p + ")", Edges.RICH, 2, x -> x.way(1, p));
            Edges.refuses("way(0, " + p + "), GONE", Edges.RICH, 2, x -> x.way(0, p));
        }
        for (int p = 0; p < 4; p++) {
            int who = p;
            Edges.refuses("GONE", Edges.RICH, 9, x -> x.way(0, who));
            Edges.refuses("FOUND", Edges.RICH, 9, x -> x.way(3, who));
        }
    }

    private static void promise28_wayAtEachOfThePasses() {
        TinFen x = row();
        for (int p = 0; p < 7; p++) {
            for (int k = 0; k <= 6 - p; k++) {
                Check.fine("wayAt", x, x.wayAt(0, p, k), 6 - k);
            }
            for (int k : new int[] {MIN, -1, 7 - p, 7, 32, MAX}) {
                int who = p;
                Edges.refuses("no such PASS", Promises18To32EdgeTest::row, 8, y -> y.wayAt(0, who, k));
            }
        }
    }

    private static void promise28_wayAtWithoutAWay() {
        for (int k : new int[] {MIN, -1, 0, 1, MAX}) {
            Edges.refuses("no WAY", () -> Check.of(SMALL), 8, x -> x.wayAt(0, 1, k));
            Edges.refuses("GONE", Edges.RICH, 9, x -> x.wayAt(0, 1, k));
            Edges.refuses("no such TIN", Edges.RICH, 2, x -> x.wayAt(5, 1, k));
            Edges.refuses("no such PERSON", Edges.RICH, 2, x -> x.wayAt(1, 4, k));
            Edges.refuses("no such PERSON, GONE", Edges.RICH, 2, x -> x.wayAt(0, -1, k));
        }
    }

    /** Of several WAYS the first by PEOPLE, one by one: not the one whose last is first. */
    private static void promise28_ofSeveralTheFirstByPeople() {
        TinFen x = Check.of("trait t worth 1;person a is t;person b is t;person c is t;person d is t;person e is t;person f is t;"
            + "person g is t;tin x of t on d;lane d f;lane d b;lane f a;lane b e;lane a g;lane e g;lane b g;");
        Check.fine("by b", x, x.way(0, 6), 2);
        Check.fine("by b", x, x.wayAt(0, 6, 1), 1);
        TinFen y = Check.of("trait t worth 1;person a is t;person b is t;person c is t;person d is t;person e is t;person f is t;"
            + "person g is t;tin x of t on d;lane d f;lane d b;lane f a;lane b e;lane a g;lane e g;");
        int[] by0 = {3, 0, 1, 6};
        TinFen z = Check.of("trait t worth 1;person a is t;person b is t;person c is t;person d is t;person e is t;person f is t;"
            + "person g is t;tin x of t on d;lane d a;lane a b;lane b g;lane d c;lane c b;");
        for (int k = 0; k < 4; k++) {
            Check.fine("by PERSON 0", z, z.wayAt(0, 6, k), by0[k]);
        }
        int[] due = {3, 1, 4, 6};
        Check.fine("three", y, y.way(0, 6), 3);
        for (int k = 0; k < 4; k++) {
            Check.fine("b and e, not f and a", y, y.wayAt(0, 6, k), due[k]);
        }
    }

    private static void promise29_reach() {
        TinFen x = row();
        Check.fine("all seven", x, x.reach(0), 127);
        x.pass(0, 5);
        Check.fine("all but g", x, x.reach(0), 63);
        TinFen y = Check.of(SMALL);
        Check.fine("who has it, though not TRUE, alone", y, y.reach(0), 1);
        for (int t : NO_TIN) {
            Edges.refuses("reach(" + t + ")", Edges.RICH, 2, z -> z.reach(t));
        }
        Edges.refuses("GONE", Edges.RICH, 9, z -> z.reach(0));
        Edges.refuses("FOUND", Edges.RICH, 9, z -> z.reach(3));
    }

    private static void promise30_next() {
        TinFen x = row();
        Check.fine("f", x, x.next(0), 32);
        x.lane(6, 0);
        Check.fine("a and f", x, x.next(0), 33);
        x.pass(0, 0);
        Check.fine("b, not g, nor a himself", x, x.next(0), 2);
        TinFen y = Check.of(SMALL);
        Check.fine("nobody", y, y.next(0), 0);
        for (int t : NO_TIN) {
            Edges.refuses("next(" + t + ")", Edges.RICH, 2, z -> z.next(t));
        }
        Edges.refuses("GONE", Edges.RICH, 9, z -> z.next(0));
        Edges.refuses("FOUND", Edges.RICH, 9, z -> z.next(3));
    }

    private static void promise31_round() {
        TinFen x = row();
        Check.fine("all seven", x, x.round(0), 7);
        x.pass(0, 5);
        x.pass(0, 4);
        Check.fine("e on to a, not back to f", x, x.round(0), 5);
        TinFen y = Check.of(SMALL);
        Check.fine("he alone", y, y.round(0), 1);
        for (int t : NO_TIN) {
            Edges.refuses("round(" + t + ")", Edges.RICH, 2, z -> z.round(t));
        }
        Edges.refuses("GONE", Edges.RICH, 9, z -> z.round(0));
        Edges.refuses("FOUND", Edges.RICH, 9, z -> z.round(3));
    }

    private static void promise32_roundAtEachPlace() {
        TinFen x = row();
        for (int k = 0; k < 7; k++) {
            Check.fine("roundAt", x, x.roundAt(0, k), 6 - k);
        }
        for (int k : new int[] {MIN, -1, 7, 8, 32, MAX}) {
            Edges.refuses("no such place", Promises18To32EdgeTest::row, 8, y -> y.roundAt(0, k));
            Edges.refuses("no such TIN", Edges.RICH, 2, y -> y.roundAt(5, k));
            Edges.refuses("no such TIN", Edges.RICH, 2, y -> y.roundAt(-1, k));
            Edges.refuses("GONE", Edges.RICH, 9, y -> y.roundAt(0, k));
        }
        TinFen y = Check.of(SMALL);
        Check.fine("he alone", y, y.roundAt(0, 0), 0);
        Check.refused("nobody else", y, y.roundAt(0, 1), 8);
    }

    private static void promise32_theFirstSuchRowByPeople() {
        TinFen x = Check.of("trait t worth 1;person a is t;person b is t;person c is t;person d is t;person e is t;"
            + "tin x of t on c;lane c d;lane c a;lane d e;lane a b;lane c e;");
        Check.fine("three", x, x.round(0), 3);
        int[] due = {2, 0, 1};
        for (int k = 0; k < 3; k++) {
            Check.fine("a, b ahead of d, e and e, d", x, x.roundAt(0, k), due[k]);
        }
        x.lane(3, 1);
        Check.fine("all five", x, x.round(0), 5);
        int[] five = {2, 0, 1, 3, 4};
        for (int k = 0; k < 5; k++) {
            Check.fine("a, b, d, e ahead of e, d, b, a", x, x.roundAt(0, k), five[k]);
        }
    }
}
