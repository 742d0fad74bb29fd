/** Promises 44 to 47: games and odds. */
public final class GamesTest {
    public static void main(String[] args) {
        game();
        gameOfThreeTurns();
        gameRefused();
        bites();
        share();
        Check.end();
    }

    private static void move(String what, TinFen x, int one, int other, int turns, int tin, int person) {
        Check.fine(what + ", tin", x, x.moveOf(one, other, turns, 0), tin);
        Check.fine(what + ", person", x, x.moveOf(one, other, turns, 1), person);
    }

    private static void game() {
        TinFen x = Check.ann();
        Check.fine("no turns", x, x.game(0, 1, 0), 0);
        Check.fine("one turn: the most", x, x.game(0, 1, 1), 9);
        move("c to ben, the first of two", x, 0, 1, 1, 2, 1);
        Check.fine("ben spends a", x, x.game(1, 0, 1), 5);
        move("a to ann", x, 1, 0, 1, 0, 0);
        Check.fine("c to cyd, then ben spends a", x, x.game(0, 1, 2), 4);
        move("c to cyd, not to ben", x, 0, 1, 2, 2, 2);
        Check.fine("ben, then ann", x, x.game(1, 0, 2), -4);
        Check.fine("nothing to spend", x, x.game(3, 0, 1), 0);
        Check.refused("nothing", x, x.moveOf(3, 0, 1, 0), 8);
        Check.fine("dot loses by ann", x, x.game(3, 0, 2), -9);
        Check.fine("the FEN stays", x, x.many(5), 0);
        Check.fine("the FEN stays", x, x.tin(2, 1), 0);
        TinFen y = Check.of("trait t worth 0;trait u worth 1;person p;person q is t u;person r is u;lane p q;lane q r;tin x of t on p;"
            + "tin y of u on q;");
        Check.fine("-1 is no NONE", y, y.game(0, 1, 2), -1);
        move("a TIN of no WORTH is as good as nothing, and first", y, 0, 1, 2, 0, 1);
    }

    private static void gameOfThreeTurns() {
        // p and q pass x to and fro: each gets 5, and p comes first and last
        TinFen x = Check.of("trait t worth 5;person p is t;person q is t;lane p q;tin x of t on p;");
        Check.fine("one", x, x.game(0, 1, 1), 5);
        Check.fine("two: back again", x, x.game(0, 1, 2), 0);
        Check.fine("three: q keeps it", x, x.game(0, 1, 3), 5);
        Check.fine("q first, p spends in his turn", x, x.game(1, 0, 2), -5);
        Check.fine("q, p, q", x, x.game(1, 0, 3), 0);
        move("as good as nothing, but first", x, 0, 1, 2, 0, 1);
        Check.refused("q has nothing", x, x.moveOf(1, 0, 3, 0), 8);
        // what p gives to q, q spends on r, of whom u is TRUE: nothing is better then
        TinFen y = Check.of("trait u worth 3;trait v worth 4;person p;person q is u v;person r is v;"
            + "lane p q;lane q r;tin x of u on p;tin y of v on p;");
        Check.fine("u stays with q, who has nobody for it", y, y.game(0, 1, 2), 3);
        move("x to q", y, 0, 1, 2, 0, 1);
        Check.fine("then y in the last turn", y, y.game(0, 1, 3), 7);
        move("x first, y last", y, 0, 1, 3, 0, 1);
        y.price(0, 0);
        y.drop(0);
        Check.fine("y to q, and q to r", y, y.game(0, 1, 2), 0);
        move("as good as nothing", y, 0, 1, 2, 1, 1);
        Check.fine("wait, and spend it in the last turn", y, y.game(0, 1, 3), 4);
        Check.refused("nothing is better", y, y.moveOf(0, 1, 3, 0), 8);
        Check.refused("nothing is better", y, y.moveOf(0, 1, 3, 1), 8);
    }

    private static void gameRefused() {
        TinFen x = Check.ann();
        Check.refused("person 4", x, x.game(4, 4, 9), 2);
        Check.refused("other -1", x, x.game(0, -1, 1), 2);
        Check.refused("himself", x, x.game(1, 1, 1), 5);
        Check.refused("turns 4", x, x.game(0, 1, 4), 5);
        Check.refused("turns -1", x, x.game(0, 1, -1), 5);
        Check.refused("moveOf, person 4", x, x.moveOf(4, 0, 1, 2), 2);
        Check.refused("moveOf, other 4", x, x.moveOf(0, 4, 1, 0), 2);
        Check.refused("moveOf, himself", x, x.moveOf(0, 0, 1, 0), 5);
        Check.refused("moveOf, turns 0", x, x.moveOf(0, 1, 0, 0), 5);
        Check.refused("moveOf, turns 4", x, x.moveOf(0, 1, 4, 0), 5);
        Check.refused("moveOf, what 2", x, x.moveOf(0, 1, 1, 2), 5);
        Check.refused("moveOf, what -1", x, x.moveOf(3, 1, 1, -1), 5);
    }

    private static void bites() {
        TinFen x = Check.ann();
        Check.fraction("none or more", x, x.bites(1, 0), 1, 1);
        Check.fraction("ben has none", x, x.bites(1, 1), 0, 1);
        Check.fraction("one by 4 sixteenths", x, x.bites(0, 1), 1, 4);
        Check.fraction("two of one", x, x.bites(0, 2), 0, 1);
        x.strike(0, 0, true);
        x.strike(0, 0, true);
        Check.fraction("one or more of three", x, x.bites(0, 1), 37, 64);
        Check.fraction("two or more of three", x, x.bites(0, 2), 5, 32);
        Check.refused("k 10", x, x.bites(0, 10), 5);
        Check.refused("k -1", x, x.bites(0, -1), 5);
        Check.refused("person 4", x, x.bites(4, 10), 2);
        Check.refused("person -1", x, x.bites(-1, 0), 2);
        x.rule(16);
        Check.fraction("surely", x, x.bites(0, 3), 1, 1);
        x.rule(0);
        Check.fraction("never", x, x.bites(0, 1), 0, 1);
        x.rule(4);
        x.bite(2);
        Check.fraction("two are left", x, x.bites(0, 2), 1, 16);
        TinFen y = Check.of("odds 3;trait t worth 1;person p;");
        for (int i = 0; i < 9; i++) {
            y.strike(0, 0, true);
        }
        Check.fraction("all nine", y, y.bites(0, 9), 19683, 1L << 36);
        Check.fraction("none or more of nine", y, y.bites(0, 0), 1, 1);
        Check.fraction("one or more of nine", y, y.bites(0, 1), (1L << 36) - 10604499373L, 1L << 36);
    }

    private static void share() {
        TinFen x = Check.ann();
        Check.fraction("ann", x, x.share(0), 11, 18);
        Check.fraction("ben", x, x.share(1), 5, 18);
        Check.fraction("cyd has nothing", x, x.share(2), 0, 1);
        Check.fraction("dot", x, x.share(3), 1, 9);
        x.drop(2);
        Check.fraction("without what is GONE", x, x.share(0), 2, 9);
        Check.refused("person 4", x, x.share(4), 2);
        Check.refused("person -1", x, x.share(-1), 2);
        x.price(0, 0);
        x.price(1, 0);
        Check.refused("all are worth 0", x, x.share(0), 8);
        Check.due("the FRACTION stays", x.bottom(), 9);
        x.strike(2, 2, false);
        Check.fraction("all is on cyd", x, x.share(2), 1, 1);
        TinFen none = Check.of("person p;");
        Check.refused("no TINS", none, none.share(0), 8);
    }
}
