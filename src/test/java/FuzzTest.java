import java.util.Random;

/** Wild calls in wild states: nothing throws, a refusal changes nothing, asking changes nothing. */
public final class FuzzTest {
    private static final Random DICE = new Random(77);
    private static final int[] WILD = {-1, 0, 1, 2, 3, 4, 5, 6, 7, 8, 9, 10, 16, 17, 20, 31, 32, 33, 60, 61, 63, 99, 100,
        300, 301, 511, 512, 900, 901, 9999, 10000, 65536, Integer.MAX_VALUE, Integer.MIN_VALUE, -2, -31};
    private static final String[] WORDS = {"odds", "trait", "worth", "person", "is", "lane", "tin", "of", "on", "lead",
        "pass", "bite", "learn", "lose", "any", "when", "got", "gone", "loop", "end", "stop", "ann", "ben", "hand", "ear",
        "a", "b", "c", "zoe", "abcdefghi", "1", "7", "99", "12345", ";", ";", ";", "<", ">", "=", "!"};

    private static TinFen x;
    private static boolean refused;

    public static void main(String[] args) {
        for (int i = 0; i < 300; i++) {
            x = DICE.nextInt(4) == 0 ? new TinFen() : Check.ann();
            for (int k = 0; k < 150; k++) {
                step();
            }
        }
        Check.end();
    }

    private static int wild() {
        return DICE.nextInt(3) == 0 ? WILD[DICE.nextInt(WILD.length)] : DICE.nextInt(5);
    }

    private static void step() {
        String before = state();
        int call = DICE.nextInt(46);
        refused = false;
        if (call < 12) {
            deed(call);
        } else if (call < 18) {
            text(call);
        } else {
            question(call);
        }
        boolean mayChange = call < 18 && !refused;
        if (!mayChange) {
            Check.due("call " + call + " leaves all as it was", before.equals(state()), true);
        }
    }

    /** The answer fits to the STATUS: NONE with all but 0. */
    private static void seen(String what, long answer) {
        refused = x.status() != 0;
        Check.due(what + ": STATUS is one of 0 to 11", x.status() >= 0 && x.status() <= 11, true);
        Check.due(what + ": NONE with a STATUS", !refused || answer == -1, true);
    }

    private static void seen(String what, boolean answer) {
        refused = x.status() != 0;
        Check.due(what + ": true just with STATUS 0", answer, !refused);
    }

    private static void deed(int call) {
        boolean flip = DICE.nextBoolean();
        switch (call) {
            case 0: seen("pass", x.pass(wild(), wild())); break;
            case 1: seen("bite", x.bite(wild())); break;
            case 2: seen("recite", x.recite(wild(), wild())); break;
            case 3: seen("drop", x.drop(wild())); break;
            case 4: seen("strike", x.strike(wild(), wild(), flip)); break;
            case 5: seen("teach", x.teach(wild(), wild(), flip)); break;
            case 6: seen("lane", x.lane(wild(), wild())); break;
            case 7: seen("price", x.price(wild(), wild())); break;
            case 8: seen("rule", x.rule(wild())); break;
            case 9: seen("live", x.live(wild())); break;
            case 10: seen("mark", x.mark()); break;
            default: seen("back", x.back()); break;
        }
    }

    private static void text(int call) {
        StringBuilder text = new StringBuilder();
        for (int i = DICE.nextInt(12); i > 0; i--) {
            text.append(WORDS[DICE.nextInt(WORDS.length)]).append(' ');
        }
        switch (call) {
            case 12: seen("tray", x.tray(wild(), wild(), wild())); break;
            case 13: seen("write", x.write(wild(), wild(), DICE.nextLong())); break;
            case 14: seen("pour", x.pour(wild(), wild(), wild(), wild(), wild())); break;
            case 15: seen("fen", DICE.nextBoolean() ? x.fen(wild()) : Check.fen(x, text.toString())); break;
            case 16: seen("years", DICE.nextInt(3) == 0 ? x.years(wild()) : Check.years(x, years())); break;
            default: seen("copyGot", x.copyGot(wild())); break;
        }
    }

    private static String years() {
        String[] steps = {"pass a ann;", "pass b ben;", "bite c;", "bite d;", "learn dot wit;", "lose ann ear;", "any;",
            "loop 30;", "when gone c;", "when got ann > 7;", "when on b ann;", "end;", "end;", "end;", "any;"};
        StringBuilder text = new StringBuilder();
        for (int i = DICE.nextInt(20); i > 0; i--) {
            text.append(steps[DICE.nextInt(steps.length)]);
        }
        return text.toString();
    }

    private static void question(int call) {
        int a = wild();
        int b = wild();
        switch (call) {
            case 18: seen("read", x.read(a, b)); break;
            case 19: seen("many", x.many(a)); break;
            case 20: seen("worth", x.worth(a)); break;
            case 21: seen("person", x.person(a, b)); break;
            case 22: seen("tin", x.tin(a, b)); break;
            case 23: seen("way", x.way(a, b)); break;
            case 24: seen("wayAt", x.wayAt(a, b, wild())); break;
            case 25: seen("reach", x.reach(a)); break;
            case 26: seen("next", x.next(a)); break;
            case 27: seen("round", x.round(a)); break;
            case 28: seen("roundAt", x.roundAt(a, b)); break;
            case 29: seen("most", x.most(a)); break;
            case 30: seen("givings", x.givings(a)); break;
            case 31: seen("given", x.given(a, b)); break;
            case 32: seen("cover", x.cover()); break;
            case 33: seen("coverSet", x.coverSet()); break;
            case 34: seen("blamed", x.blamed()); break;
            case 35: seen("blamedSet", x.blamedSet()); break;
            case 36: seen("wheels", x.wheels(a)); break;
            case 37: seen("whose", x.whose(a, b)); break;
            case 38: seen("sure", x.sure(a, b)); break;
            case 39: seen("ask", x.ask(a, b)); break;
            case 40: seen("game", x.game(a, b, wild())); break;
            case 41: seen("moveOf", x.moveOf(a, b, wild(), wild())); break;
            case 42: seen("lived", x.lived(a)); break;
            default: told(call, a, b); break;
        }
    }

    /** The calls that tell a FRACTION; with another STATUS than 0 it stays. */
    private static void told(int call, int a, int b) {
        long top = x.top();
        long bottom = x.bottom();
        switch (call) {
            case 43: seen("bites", x.bites(a, b)); break;
            case 44: seen("share", x.share(a)); break;
            default: seen("mean", x.mean(a, b)); break;
        }
        Check.due("the bottom is above 0", x.bottom() > 0, true);
        Check.due("the FRACTION stays", !refused || (top == x.top() && bottom == x.bottom()), true);
    }

    /** All that can be asked without a change, but for STATUS and the FRACTION. */
    private static String state() {
        StringBuilder all = new StringBuilder();
        for (int i = 0; i < 10; i++) {
            all.append(x.many(i)).append(' ');
        }
        for (int i = 0; i < 7; i++) {
            for (int what = 0; what < 5; what++) {
                all.append(x.person(i, what)).append(' ').append(x.worth(i)).append(' ');
            }
        }
        for (int i = 0; i < 9; i++) {
            for (int what = 0; what < 5; what++) {
                all.append(x.tin(i, what)).append(' ');
            }
        }
        for (int i = 0; i < 4; i++) {
            for (int k = 0; k < 60; k++) {
                all.append(x.read(i, k)).append(x.status()).append(' ');
            }
        }
        for (int i = 0; i < 5; i++) {
            all.append(x.lived(i)).append(x.status()).append(' ');
        }
        return all.toString();
    }
}
