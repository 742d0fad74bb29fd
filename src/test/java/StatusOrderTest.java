import java.util.Set;
import java.util.TreeSet;

/**
 * "==== 5. STATUS of a call is the first of these that holds": each call by all of its arguments at the boundaries,
 * against what the document's own words say of each STATUS by itself. A refused call must leave all as it was.
 */
public final class StatusOrderTest {
    private static final int[] ORDER = {1, 2, 3, 4, 5, 6, 7, 8, 9, 10, 11};
    private static final int[] GONE_IS_9 = {1, 2, 3, 4, 5, 6, 7, 9, 8, 10, 11};
    private static final int[] POUR = {1, 3, 11, 6, 4};

    private static final int MIN = Integer.MIN_VALUE;
    private static final int MAX = Integer.MAX_VALUE;
    private static final int[] TRAYS = {MIN, -1, 0, 1, 2, 3, 4, MAX};
    private static final int[] TRAITS = {MIN, -1, 0, 1, 2, 3, 6, 32, MAX};
    private static final int[] PEOPLE = {MIN, -1, 0, 1, 2, 3, 4, 7, 32, MAX};
    private static final int[] TINS = {MIN, -1, 0, 1, 2, 3, 4, 5, 9, 32, MAX};
    private static final int[] WHATS = {MIN, -1, 0, 1, 2, 3, 4, 5, 10, MAX};

    /** Of Edges.RICH, told here once more by hand. */
    private static final int[] LENGTHS = {4, 18, 6};
    private static final int[] SORTS = {0, 3, 0};
    private static final int[] TRUTHS = {3, 6, 5, 2};
    private static final int[] MEETS = {6, 5, 11, 4};
    private static final int[] TRAIT_OF = {0, 1, 2, 1, 2};
    private static final int[] HOLDER = {-1, 0, 1, -1, 2};
    private static final int GONE = 9;
    private static final int FOUND = 8;

    private static final Set<String> PAIRS = new TreeSet<>();

    public static void main(String[] args) {
        Edges.runAll(StatusOrderTest.class);
    }

    private static boolean in(int v, int least, int most) {
        return v >= least && v <= most;
    }

    private static boolean has(int set, int i) {
        return in(i, 0, 30) && (set >> i & 1) != 0;
    }

    private static boolean noTray(int t) {
        return !in(t, 0, 3);
    }

    private static boolean noTrait(int t) {
        return !in(t, 0, 2);
    }

    private static boolean noPerson(int p) {
        return !in(p, 0, 3);
    }

    private static boolean noTin(int t) {
        return !in(t, 0, 4);
    }

    private static boolean gone(int t) {
        return has(GONE, t);
    }

    private static boolean isTrue(int tin, int person) {
        return !noTin(tin) && !noPerson(person) && has(TRUTHS[person], TRAIT_OF[tin]);
    }

    /** The first of these that holds; two that hold at once are written down. */
    private static int first(String call, int[] order, boolean[] holds) {
        int due = 0;
        for (int status : order) {
            if (holds[status] && due == 0) {
                due = status;
            } else if (holds[status]) {
                PAIRS.add(call + " " + due + " ahead of " + status);
            }
        }
        return due;
    }

    private static boolean[] holds() {
        return new boolean[12];
    }

    /** The tests did come to both at once. */
    private static void met(String... pairs) {
        for (String pair : pairs) {
            Check.due("both held at once: " + pair, PAIRS.contains(pair), true);
        }
    }

    private static void told(String call, String with, int due, Edges.Number answer) {
        if (due != 0) {
            Edges.refuses(call + with, Edges.RICH, due, answer);
        } else {
            TinFen x = Edges.RICH.make();
            answer.of(x);
            Check.due(call + with + ", status", x.status(), 0);
        }
    }

    private static void said(String call, String with, int due, Edges.Yes answer) {
        if (due != 0) {
            Edges.denies(call + with, Edges.RICH, due, answer);
        } else {
            TinFen x = Edges.RICH.make();
            Check.fine(call + with, x, answer.of(x));
        }
    }

    private static String with(int... arguments) {
        StringBuilder all = new StringBuilder("(");
        for (int i = 0; i < arguments.length; i++) {
            all.append(i > 0 ? ", " : "").append(arguments[i]);
        }
        return all.append(")").toString();
    }

    // ---- TRAYS

    private static void section5_tray() {
        for (int t : TRAYS) {
            for (int s : TRAYS) {
                for (int many : new int[] {MIN, -1, 0, 1, 60, 61, MAX}) {
                    boolean[] h = holds();
                    h[1] = noTray(t) || noTray(s);
                    h[5] = many > 60;
                    h[6] = many < 0;
                    said("tray", with(t, s, many), first("tray", ORDER, h), x -> x.tray(t, s, many));
                }
            }
        }
        met("tray 1 ahead of 5", "tray 1 ahead of 6");
    }

    private static boolean missing(int t) {
        return t == 3;
    }

    private static boolean noPlace(int t, int place) {
        return in(t, 0, 2) && !in(place, 0, LENGTHS[t] - 1);
    }

    private static void section5_writeAndRead() {
        for (int t : TRAYS) {
            for (int place : new int[] {MIN, -1, 0, 3, 4, 5, 6, 17, 18, 59, 60, MAX}) {
                boolean[] h = holds();
                h[1] = noTray(t);
                h[3] = missing(t);
                // a TRAY that is MISSING has no place at all
                h[4] = missing(t) || noPlace(t, place);
                int due = first("write", ORDER, h);
                for (long v : new long[] {Long.MIN_VALUE, -1, 0, Long.MAX_VALUE}) {
                    said("write", with(t, place), due, x -> x.write(t, place, v));
                }
                told("read", with(t, place), due, x -> x.read(t, place));
            }
        }
        met("write 3 ahead of 4");
    }

    private static boolean noRun(int t, int place, int many) {
        return in(t, 0, 2) && (place < 0 || (long) place + Math.max(many, 0) > LENGTHS[t]);
    }

    private static void section5_pour() {
        int[] places = {MIN, -1, 0, 3, 4, 6, 7, MAX};
        for (int t : TRAYS) {
            for (int to : TRAYS) {
                for (int i : places) {
                    for (int j : places) {
                        pourOf(t, i, to, j);
                    }
                }
            }
        }
        met("pour 1 ahead of 3", "pour 1 ahead of 6", "pour 1 ahead of 4", "pour 3 ahead of 6", "pour 3 ahead of 4",
            "pour 11 ahead of 6", "pour 11 ahead of 4", "pour 6 ahead of 4");
    }

    /** One object for all of these: a pour that is taken changes nothing that they ask for. */
    private static void pourOf(int t, int i, int to, int j) {
        TinFen x = Edges.RICH.make();
        for (int many : new int[] {MIN, -1, 0, 1, 3, 4, 5, MAX}) {
            boolean[] h = holds();
            h[1] = noTray(t) || noTray(to);
            h[3] = missing(t) || missing(to);
            h[11] = in(t, 0, 2) && in(to, 0, 2) && SORTS[t] != SORTS[to];
            h[6] = many < 0;
            h[4] = noRun(t, i, many) || noRun(to, j, many);
            int due = first("pour", POUR, h);
            boolean poured = x.pour(t, i, to, j, many);
            Check.due("pour" + with(t, i, to, j, many), poured, due == 0);
            Check.due("pour" + with(t, i, to, j, many) + ", status", x.status(), due);
            if (due != 0 && many == 1) {
                Edges.denies("pour" + with(t, i, to, j, many), Edges.RICH, due, y -> y.pour(t, i, to, j, many));
            }
        }
    }

    // ---- texts

    private static void section5_fenAndYears() {
        for (int n : new int[] {MIN, -1, 41, 300, 301, 900, 901, MAX}) {
            told("fen", with(n), 5, x -> x.fen(n));
            told("years", with(n), 5, x -> x.years(n));
        }
        for (int n : new int[] {0, 7, 25, 36, 40}) {
            told("fen", with(n), 0, x -> x.fen(n));
        }
        told("years", with(0), 0, x -> x.years(0));
    }

    private static void section5_asksOfTheFen() {
        for (int what : WHATS) {
            told("many", with(what), in(what, 0, 9) ? 0 : 5, x -> x.many(what));
            told("lived", with(what), in(what, 0, 4) ? 0 : 5, x -> x.lived(what));
            for (int p : PEOPLE) {
                boolean[] h = holds();
                h[2] = noPerson(p);
                h[5] = !in(what, 0, 4);
                told("person", with(p, what), first("person", ORDER, h), x -> x.person(p, what));
            }
            for (int t : TINS) {
                boolean[] h = holds();
                h[2] = noTin(t);
                h[5] = !in(what, 0, 4);
                h[8] = what == 1 && gone(t);
                told("tin", with(t, what), first("tin", ORDER, h), x -> x.tin(t, what));
            }
        }
        for (int t : TRAITS) {
            told("worth", with(t), noTrait(t) ? 2 : 0, x -> x.worth(t));
        }
        met("person 2 ahead of 5", "tin 2 ahead of 5");
    }

    private static void section5_copyGot() {
        for (int t : TRAYS) {
            for (int length = 0; length <= 5; length++) {
                int many = length;
                boolean laid = in(t, 0, 2);
                boolean[] h = holds();
                h[1] = noTray(t);
                h[3] = missing(t);
                h[4] = missing(t) || laid && many < 4;
                Edges.Maker maker = () -> {
                    TinFen x = Edges.RICH.make();
                    if (laid) {
                        x.tray(t, 1, many);
                    }
                    return x;
                };
                int due = first("copyGot", ORDER, h);
                if (due != 0) {
                    Edges.refuses("copyGot" + with(t, many), maker, due, x -> x.copyGot(t));
                } else {
                    TinFen x = maker.make();
                    Check.fine("copyGot" + with(t, many), x, x.copyGot(t), 4);
                }
            }
        }
        met("copyGot 3 ahead of 4");
    }

    // ---- what is done

    private static void section5_deedsOfATinAndAPerson() {
        for (int t : TINS) {
            for (int p : PEOPLE) {
                boolean[] h = holds();
                h[2] = noTin(t) || noPerson(p);
                boolean meet = !noTin(t) && !gone(t) && !noPerson(p) && has(MEETS[HOLDER[t]], p);
                h[9] = gone(t) || !h[2] && (!meet || !isTrue(t, p));
                told("pass", with(t, p), first("pass", ORDER, h), x -> x.pass(t, p));
                boolean on = !noTin(t) && !gone(t) && HOLDER[t] == p;
                h[9] = has(FOUND, t) || !h[2] && (!isTrue(t, p) || on);
                said("recite", with(t, p), first("recite", ORDER, h), x -> x.recite(t, p));
            }
        }
        met("pass 2 ahead of 9", "recite 2 ahead of 9");
    }

    private static void section5_deedsOfATin() {
        for (int t : TINS) {
            int due = noTin(t) ? 2 : gone(t) ? 9 : 0;
            told("bite", with(t), due, x -> x.bite(t));
            told("drop", with(t), due, x -> x.drop(t));
            told("reach", with(t), due, x -> x.reach(t));
            told("next", with(t), due, x -> x.next(t));
            told("round", with(t), due, x -> x.round(t));
        }
    }

    private static void section5_strikeAndTeach() {
        for (int t : TRAITS) {
            for (int p : PEOPLE) {
                int due = noTrait(t) || noPerson(p) ? 2 : 0;
                told("strike", with(t, p), due, x -> x.strike(t, p, true));
                told("strike", with(t, p), due, x -> x.strike(t, p, false));
                boolean is = due == 0 && has(TRUTHS[p], t);
                said("teach", with(p, t), due != 0 ? due : is ? 9 : 0, x -> x.teach(p, t, true));
                said("teach not", with(p, t), due != 0 ? due : is ? 0 : 9, x -> x.teach(p, t, false));
            }
        }
    }

    /** Where there is no room for a TIN, a LANE, a MARK: 2, 5 come ahead of 7. */
    private static void section5_oneTooMany() {
        for (int t : new int[] {MIN, -1, 0, 5, 6, MAX}) {
            for (int p : new int[] {MIN, -1, 0, 6, 7, MAX}) {
                boolean no = !in(t, 0, 5) || !in(p, 0, 6);
                Edges.refuses("strike" + with(t, p), Edges.FULL, no ? 2 : 7, x -> x.strike(t, p, true));
                Edges.refuses("strike" + with(t, p), Edges.FULL, no ? 2 : 7, x -> x.strike(t, p, false));
            }
        }
        for (int p : new int[] {MIN, -1, 0, 6, 7, MAX}) {
            for (int q : new int[] {MIN, -1, 0, 6, 7, MAX}) {
                boolean no = !in(p, 0, 6) || !in(q, 0, 6);
                Edges.refuses("lane" + with(p, q), Edges.FULL, no ? 2 : p == q ? 5 : 7, x -> x.lane(p, q));
            }
        }
        Edges.refuses("mark()", Edges.FULL, 7, x -> x.mark());
    }

    private static void section5_lane() {
        for (int p : PEOPLE) {
            for (int q : PEOPLE) {
                boolean[] h = holds();
                h[2] = noPerson(p) || noPerson(q);
                h[5] = p == q;
                told("lane", with(p, q), first("lane", ORDER, h), x -> x.lane(p, q));
            }
        }
        met("lane 2 ahead of 5");
    }

    private static void section5_priceAndRule() {
        for (int v : new int[] {MIN, -1, 0, 1, 16, 17, 99, 100, MAX}) {
            said("rule", with(v), in(v, 0, 16) ? 0 : 5, x -> x.rule(v));
            for (int t : TRAITS) {
                boolean[] h = holds();
                h[2] = noTrait(t);
                h[5] = !in(v, 0, 99);
                said("price", with(t, v), first("price", ORDER, h), x -> x.price(t, v));
            }
        }
        met("price 2 ahead of 5");
    }

    // ---- ways of a TIN: of RICH, b comes to ann, ben; c and TIN 4 come to ben, cyd

    private static int wayOf(int t, int p) {
        int[][] ways = {{-1, -1, -1, -1}, {0, 1, -1, -1}, {-1, 0, 1, -1}, {-1, -1, -1, -1}, {-1, 1, 0, -1}};
        return noTin(t) || noPerson(p) ? -1 : ways[t][p];
    }

    private static void section5_ways() {
        for (int t : TINS) {
            for (int p : PEOPLE) {
                boolean[] h = holds();
                h[2] = noTin(t) || noPerson(p);
                h[9] = gone(t);
                h[8] = wayOf(t, p) < 0;
                told("way", with(t, p), first("way", GONE_IS_9, h), x -> x.way(t, p));
                for (int k : new int[] {MIN, -1, 0, 1, 2, MAX}) {
                    h[8] = wayOf(t, p) < 0 || !in(k, 0, wayOf(t, p));
                    told("wayAt", with(t, p, k), first("wayAt", GONE_IS_9, h), x -> x.wayAt(t, p, k));
                }
            }
            for (int k : new int[] {MIN, -1, 0, 1, 2, 3, MAX}) {
                boolean[] h = holds();
                h[2] = noTin(t);
                h[9] = gone(t);
                // of each that is not GONE the ROUND is of two
                h[8] = !in(k, 0, 1);
                told("roundAt", with(t, k), first("roundAt", GONE_IS_9, h), x -> x.roundAt(t, k));
            }
        }
        met("way 2 ahead of 9", "way 2 ahead of 8", "way 9 ahead of 8", "wayAt 2 ahead of 9", "wayAt 2 ahead of 8",
            "wayAt 9 ahead of 8", "roundAt 2 ahead of 8", "roundAt 9 ahead of 8");
    }

    // ---- givings: b goes to ann, ben, dot; c and TIN 4 go to ben, cyd

    private static final int[] HEAPS = {MIN, -32, -1, 0, 1, 2, 4, 8, 16, 18, 20, 22, 23, 30, 31, 32, 34, 63, 64, 511, 512, MAX};

    private static boolean noHeap(int set) {
        return !in(set, 0, 31);
    }

    private static void section5_heaps() {
        for (int set : HEAPS) {
            boolean[] h = holds();
            h[5] = noHeap(set);
            h[9] = (set & GONE) != 0;
            int due = first("most", ORDER, h);
            told("most", with(set), due, x -> x.most(set));
            told("givings", with(set), due, x -> x.givings(set));
            for (int t : TINS) {
                h[2] = noTin(t);
                h[5] = noHeap(set) || !has(set, t);
                h[8] = (set & GONE) != 0;
                told("given", with(set, t), first("given", GONE_IS_9, h), x -> x.given(set, t));
            }
        }
        met("most 5 ahead of 9", "given 2 ahead of 5", "given 2 ahead of 9", "given 2 ahead of 8", "given 5 ahead of 9",
            "given 5 ahead of 8", "given 9 ahead of 8");
    }

    /** Of three TINS of wit two alone can be GIVEN: 2, 5, 9 come ahead of that 8. */
    private static void section5_givenWhereNotAllCanBe() {
        Edges.Maker maker = () -> {
            TinFen x = Edges.RICH.make();
            x.strike(2, 0, false);
            return x;
        };
        Edges.refuses("not all", maker, 8, x -> x.given(52, 2));
        Edges.refuses("no such TIN", maker, 2, x -> x.given(52, 6));
        Edges.refuses("none of the set", maker, 5, x -> x.given(52, 1));
        Edges.refuses("a set with what there is none of", maker, 5, x -> x.given(52 + 64, 2));
        Edges.refuses("one is GONE", maker, 9, x -> x.given(53, 2));
        Edges.refuses("one is GONE, and it is none of the set", maker, 5, x -> x.given(53, 1));
    }

    private static void section5_coverAndWheels() {
        for (int n : new int[] {MIN, -2, -1, 0, 1, 2, 7, 8, MAX}) {
            told("wheels", with(n), in(n, 2, 7) ? 0 : 5, x -> x.wheels(n));
        }
        Edges.Maker bare = () -> {
            TinFen x = Edges.RICH.make();
            x.teach(3, 1, false);
            return x;
        };
        Edges.refuses("cover()", bare, 8, x -> x.cover());
        Edges.refuses("coverSet()", bare, 8, x -> x.coverSet());
    }

    // ---- what was seen

    private static final int[] TWOS = {MIN, -1, 0, 1, 2, 3, 4, 7, 8, 9, 30, 31, MAX};

    private static void section5_seen() {
        for (int t : TRAYS) {
            for (int n : TWOS) {
                boolean[] h = holds();
                h[1] = noTray(t);
                h[3] = missing(t);
                h[4] = missing(t) && n > 0 || in(t, 0, 2) && 2L * n > LENGTHS[t];
                // TRAY 0 begins with a PERSON 21, TRAY 2 has PERSON 0 with 0 again and again, TRAY 1 from the fifth two on
                h[5] = !in(n, 0, 7) || t == 0 && n > 0 || t == 2 && n > 1 || t == 1 && n > 4;
                int due = first("whose", ORDER, h);
                told("whose", with(t, n), due, x -> x.whose(t, n));
                // one of each PERSON: by ann and ben two sets (ear; hand and wit), by ann, ben and cyd none
                h[8] = t == 1 && n > 2;
                told("sure", with(t, n), first("sure", ORDER, h), x -> x.sure(t, n));
                told("ask", with(t, n), first("ask", ORDER, h), x -> x.ask(t, n));
            }
        }
        met("whose 1 ahead of 5", "whose 3 ahead of 4", "whose 3 ahead of 5", "whose 4 ahead of 5", "sure 4 ahead of 5",
            "sure 5 ahead of 8", "ask 4 ahead of 5", "ask 4 ahead of 8", "ask 5 ahead of 8");
    }

    // ---- games, odds

    private static void section5_games() {
        for (int p : PEOPLE) {
            for (int q : PEOPLE) {
                for (int turns : new int[] {MIN, -1, 0, 1, 2, 3, 4, MAX}) {
                    boolean[] h = holds();
                    h[2] = noPerson(p) || noPerson(q);
                    h[5] = p == q || !in(turns, 0, 3);
                    told("game", with(p, q, turns), first("game", ORDER, h), x -> x.game(p, q, turns));
                    for (int what : new int[] {MIN, -1, 0, 1, 2, MAX}) {
                        h[5] = p == q || !in(turns, 1, 3) || !in(what, 0, 1);
                        // dot has nothing that can be spent
                        h[8] = p == 3;
                        told("moveOf", with(p, q, turns, what), first("moveOf", ORDER, h), x -> x.moveOf(p, q, turns, what));
                    }
                }
            }
        }
        met("game 2 ahead of 5", "moveOf 2 ahead of 5", "moveOf 2 ahead of 8", "moveOf 5 ahead of 8");
    }

    private static void section5_odds() {
        for (int p : PEOPLE) {
            for (int k : new int[] {MIN, -1, 0, 1, 9, 10, MAX}) {
                boolean[] h = holds();
                h[2] = noPerson(p);
                h[5] = !in(k, 0, 9);
                said("bites", with(p, k), first("bites", ORDER, h), x -> x.bites(p, k));
            }
            said("share", with(p), noPerson(p) ? 2 : 0, x -> x.share(p));
            Edges.Maker poor = () -> {
                TinFen x = Edges.RICH.make();
                x.price(1, 0);
                x.price(2, 0);
                return x;
            };
            Edges.denies("share, worth 0" + with(p), poor, noPerson(p) ? 2 : 8, x -> x.share(p));
        }
        met("bites 2 ahead of 5");
    }

    // ---- YEARS, MARKS

    private static final int[] SEEDS = {MIN, -1, 0, 1, 9979, 9980, 9981, 9998, 9999, 10000, MAX};

    private static boolean badMean(int seed, int many) {
        return !in(seed, 0, 9999) || !in(many, 1, 20) || seed + many - 1 > 9999;
    }

    private static void section5_years() {
        for (int seed : SEEDS) {
            told("live", with(seed), in(seed, 0, 9999) ? 0 : 5, x -> x.live(seed));
            for (int many : new int[] {MIN, -1, 0, 1, 2, 19, 20, 21, MAX}) {
                said("mean", with(seed, many), badMean(seed, many) ? 5 : 0, x -> x.mean(seed, many));
            }
        }
    }

    /** Without YEARS, and where none were lived: 5 comes ahead of 8. */
    private static void section5_withoutYears() {
        for (Edges.Maker maker : new Edges.Maker[] {Edges.EMPTY, Edges.ANN}) {
            for (int seed : SEEDS) {
                Edges.refuses("live" + with(seed), maker, in(seed, 0, 9999) ? 8 : 5, x -> x.live(seed));
                for (int many : new int[] {MIN, -1, 0, 1, 2, 19, 20, 21, MAX}) {
                    Edges.denies("mean" + with(seed, many), maker, badMean(seed, many) ? 5 : 8, x -> x.mean(seed, many));
                }
            }
            for (int what : WHATS) {
                Edges.refuses("lived" + with(what), maker, in(what, 0, 4) ? 8 : 5, x -> x.lived(what));
            }
            Edges.refuses("back()", maker, 8, x -> x.back());
        }
    }

    /** Of nobody there is nothing: 2 for each TRAIT, PERSON, TIN; sets of TINS are empty. */
    private static void section5_ofNobody() {
        for (int v : new int[] {MIN, -1, 0, 1, MAX}) {
            Edges.refuses("worth", Edges.EMPTY, 2, x -> x.worth(v));
            Edges.refuses("person", Edges.EMPTY, 2, x -> x.person(v, 9));
            Edges.refuses("tin", Edges.EMPTY, 2, x -> x.tin(v, 9));
            Edges.refuses("pass", Edges.EMPTY, 2, x -> x.pass(v, v));
            Edges.refuses("bite", Edges.EMPTY, 2, x -> x.bite(v));
            Edges.denies("recite", Edges.EMPTY, 2, x -> x.recite(v, v));
            Edges.refuses("drop", Edges.EMPTY, 2, x -> x.drop(v));
            Edges.refuses("strike", Edges.EMPTY, 2, x -> x.strike(v, v, true));
            Edges.denies("teach", Edges.EMPTY, 2, x -> x.teach(v, v, false));
            Edges.refuses("lane", Edges.EMPTY, 2, x -> x.lane(v, v));
            Edges.denies("price", Edges.EMPTY, 2, x -> x.price(v, -1));
            Edges.refuses("way", Edges.EMPTY, 2, x -> x.way(v, v));
            Edges.refuses("wayAt", Edges.EMPTY, 2, x -> x.wayAt(v, v, v));
            Edges.refuses("reach", Edges.EMPTY, 2, x -> x.reach(v));
            Edges.refuses("next", Edges.EMPTY, 2, x -> x.next(v));
            Edges.refuses("round", Edges.EMPTY, 2, x -> x.round(v));
            Edges.refuses("roundAt", Edges.EMPTY, 2, x -> x.roundAt(v, v));
            Edges.refuses("given", Edges.EMPTY, 2, x -> x.given(v, v));
            Edges.refuses("game", Edges.EMPTY, 2, x -> x.game(v, v, v));
            Edges.refuses("moveOf", Edges.EMPTY, 2, x -> x.moveOf(v, v, v, v));
            Edges.denies("bites", Edges.EMPTY, 2, x -> x.bites(v, v));
            Edges.denies("share", Edges.EMPTY, 2, x -> x.share(v));
        }
    }

    /** "status(), fault(), feed(), top(), bottom() have none": they leave STATUS as it was. */
    private static void section5_callsWithoutStatus() {
        TinFen x = Edges.FULL.make();
        Check.refused("wheels(8)", x, x.wheels(8), 5);
        x.status();
        x.fault(0);
        x.fault(1);
        x.fault(2);
        x.fault(MIN);
        x.top();
        x.bottom();
        Check.due("a feed that is refused", x.feed(1, 2, 3, 4, 5), -1);
        Check.due("status stays 5", x.status(), 5);
        x.fen(0);
        Check.refused("wheels(1)", x, x.wheels(1), 5);
        Check.due("a feed that is taken", x.feed(1, 2, 3, 4, 5), 20);
        Check.due("status stays 5", x.status(), 5);
    }

    /** "A call with STATUS 0 else": what is asked without a change leaves all as it was. */
    private static void section5_questionsChangeNothing() {
        Edges.Number[] questions = {x -> x.status(), x -> x.fault(1), x -> x.read(1, 3), x -> x.many(9), x -> x.worth(1),
            x -> x.person(1, 4), x -> x.tin(1, 3), x -> x.way(2, 2), x -> x.wayAt(2, 2, 1), x -> x.reach(2), x -> x.next(2),
            x -> x.round(2), x -> x.roundAt(2, 1), x -> x.most(22), x -> x.givings(22), x -> x.given(22, 4), x -> x.cover(),
            x -> x.coverSet(), x -> x.blamed(), x -> x.blamedSet(), x -> x.wheels(2), x -> x.whose(1, 1), x -> x.sure(1, 1),
            x -> x.ask(1, 1), x -> x.game(1, 2, 3), x -> x.moveOf(1, 2, 3, 1), x -> x.lived(3), x -> x.bite(1)};
        for (int i = 0; i < questions.length; i++) {
            Edges.leavesAll("question " + i, Edges.RICH, questions[i]);
        }
    }
}
