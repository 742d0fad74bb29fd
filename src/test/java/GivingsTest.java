/** Promises 33 to 40: givings, COVER, BLAMED, WHEELS. */
public final class GivingsTest {
    public static void main(String[] args) {
        givenAlone();
        heaps();
        heapsRefused();
        largest();
        cover();
        blamed();
        wheels();
        wheelsOfSeven();
        Check.end();
    }

    /** No other call has to be made ahead of it, and none of another set harms. */
    private static void givenAlone() {
        TinFen x = Check.ann();
        Check.fine("given at once", x, x.given(14, 3), 3);
        Check.fine("most of another set", x, x.most(1), 1);
        Check.fine("given behind most", x, x.given(14, 2), 1);
        Check.fine("givings of another set", x, x.givings(0), 1);
        Check.fine("given behind givings", x, x.given(14, 1), 0);
    }

    private static void heaps() {
        TinFen x = Check.ann();
        Check.fine("most of none", x, x.most(0), 0);
        Check.fine("givings of none", x, x.givings(0), 1);
        Check.fine("most", x, x.most(15), 4);
        Check.fine("givings", x, x.givings(15), 4);
        int[] due = {0, 1, 2, 3};
        for (int i = 0; i < 4; i++) {
            Check.fine("given " + i, x, x.given(15, i), due[i]);
        }
        Check.fine("LANES do not matter", x, x.given(8, 3), 0);
        Check.fine("him who has it, too", x, x.given(10, 3), 1);
        x.strike(0, 3, false);
        x.strike(0, 3, true);
        Check.fine("three of hand", x, x.most(49), 2);
        Check.fine("no way", x, x.givings(49), 0);
        Check.refused("not all", x, x.given(49, 4), 8);
        Check.fine("two of hand", x, x.givings(48), 2);
        Check.fine("hand to ann", x, x.given(48, 4), 0);
        Check.fine("hand to cyd", x, x.given(48, 5), 2);
        Check.fine("a later one's need moves an earlier one", x, x.given(50, 1), 1);
        x.teach(3, 1, false);
        x.teach(1, 1, false);
        x.teach(0, 1, false);
        Check.fine("TRUE of nobody, not of him who has it", x, x.most(10), 0);
    }

    private static void heapsRefused() {
        TinFen x = Check.ann();
        Check.refused("most 16", x, x.most(16), 5);
        Check.refused("most -1", x, x.most(-1), 5);
        Check.refused("most least", x, x.most(Integer.MIN_VALUE), 5);
        Check.refused("givings 17", x, x.givings(17), 5);
        Check.refused("givings -16", x, x.givings(-16), 5);
        Check.refused("given, tin 4", x, x.given(16, 4), 2);
        Check.refused("given, tin -1", x, x.given(1, -1), 2);
        Check.refused("given, tin 33", x, x.given(2, 33), 2);
        Check.refused("given 17", x, x.given(17, 0), 5);
        Check.refused("given -1", x, x.given(-1, 0), 5);
        Check.refused("given, none of the set", x, x.given(2, 0), 5);
        x.bite(2);
        Check.refused("most, GONE", x, x.most(5), 9);
        Check.refused("givings, GONE", x, x.givings(4), 9);
        Check.refused("given, GONE", x, x.given(5, 0), 9);
        Check.refused("given, GONE itself", x, x.given(4, 2), 9);
        Check.refused("given, not of the set, one GONE", x, x.given(4, 0), 5);
        Check.refused("most, GONE, and none such", x, x.most(20), 5);
        Check.fine("without it", x, x.most(3), 2);
    }

    private static void largest() {
        StringBuilder text = new StringBuilder("trait t worth 1;");
        for (char c = 'a'; c <= 'g'; c++) {
            text.append("person ").append(c).append(" is t;");
        }
        for (char c = 'h'; c <= 'p'; c++) {
            text.append("tin ").append(c).append(" of t on a;");
        }
        TinFen x = Check.of(text.toString());
        Check.fine("most of nine", x, x.most(511), 7);
        Check.fine("givings of nine", x, x.givings(511), 0);
        Check.refused("given of nine", x, x.given(511, 8), 8);
        Check.fine("givings of seven", x, x.givings(0x1f6), 5040);
        Check.fine("the last of seven", x, x.given(0x1f6, 8), 6);
        Check.fine("the third of seven", x, x.given(0x1f6, 4), 2);
    }

    private static void cover() {
        TinFen x = Check.ann();
        Check.fine("two", x, x.cover(), 2);
        Check.fine("hand and ear are the least", x, x.coverSet(), 3);
        x.teach(2, 1, true);
        Check.fine("one", x, x.cover(), 1);
        Check.fine("ear", x, x.coverSet(), 2);
        x.teach(3, 1, false);
        Check.refused("dot has none", x, x.cover(), 8);
        Check.refused("dot has none", x, x.coverSet(), 8);
        TinFen y = Check.of("trait a worth 0;trait b worth 0;trait c worth 0;person p is a b;person q is c b;person r is a c;");
        Check.fine("two of three", y, y.cover(), 2);
        Check.fine("the least", y, y.coverSet(), 3);
        TinFen z = Check.of("trait a worth 0;trait b worth 0;trait c worth 0;trait d worth 0;"
            + "person p is a d;person q is b d;person r is c;");
        Check.fine("fewer, though a greater number", z, z.cover(), 2);
        Check.fine("d and c", z, z.coverSet(), 12);
        TinFen nobody = Check.of("trait a worth 1;");
        Check.fine("nobody", nobody, nobody.cover(), 0);
        Check.fine("nobody", nobody, nobody.coverSet(), 0);
        TinFen bare = Check.of("person p;");
        Check.refused("no TRAITS", bare, bare.cover(), 8);
    }

    private static void blamed() {
        TinFen x = Check.ann();
        Check.fine("none FOUND", x, x.blamed(), 0);
        Check.fine("none FOUND", x, x.blamedSet(), 0);
        x.pass(2, 1);
        x.pass(2, 2);
        x.drop(3);
        Check.fine("thrown away is not FOUND", x, x.blamed(), 0);
        x.bite(2);
        Check.fine("one", x, x.blamed(), 1);
        Check.fine("the least who HELD it", x, x.blamedSet(), 1);
        x.recite(3, 1);
        x.bite(3);
        Check.fine("one for both", x, x.blamed(), 1);
        Check.fine("ben HELD both", x, x.blamedSet(), 2);
        x.strike(0, 2, true);
        x.bite(4);
        Check.fine("two", x, x.blamed(), 2);
        Check.fine("ben and cyd are less than cyd and dot", x, x.blamedSet(), 6);
    }

    private static void wheels() {
        TinFen x = Check.ann();
        Check.refused("1", x, x.wheels(1), 5);
        Check.refused("8", x, x.wheels(8), 5);
        Check.refused("-2", x, x.wheels(-2), 5);
        Check.fine("two", x, x.wheels(2), 1);
        Check.fine("three", x, x.wheels(3), 0);
        Check.fine("seven of four", x, x.wheels(7), 0);
        x.strike(2, 2, false);
        Check.fine("cyd and ben: a to cyd, wit to ben", x, x.wheels(2), 2);
        Check.fine("three, one way round", x, x.wheels(3), 1);
        x.strike(0, 2, false);
        Check.fine("ann, cyd, too", x, x.wheels(2), 3);
        Check.fine("both ways round", x, x.wheels(3), 2);
        x.drop(2);
        Check.fine("what is GONE can't be PASSED", x, x.wheels(3), 1);
        x.drop(0);
        Check.fine("ben has none", x, x.wheels(3), 0);
        Check.fine("nobody gives to ann and takes from her", x, x.wheels(2), 0);
    }

    private static void wheelsOfSeven() {
        StringBuilder text = new StringBuilder("trait t worth 1;");
        for (char c = 'a'; c <= 'g'; c++) {
            text.append("person ").append(c).append(" is t;tin n").append(c).append(" of t on ").append(c).append(";");
        }
        for (char c = 'a'; c <= 'g'; c++) {
            text.append("lane ").append(c).append(" ").append(c == 'g' ? 'a' : (char) (c + 1)).append(";");
        }
        TinFen x = Check.of(text.toString());
        Check.fine("pairs", x, x.wheels(2), 7);
        for (int n = 3; n < 7; n++) {
            Check.fine("none of " + n, x, x.wheels(n), 0);
        }
        Check.fine("two of seven", x, x.wheels(7), 2);
        x.lane(0, 2);
        Check.fine("short cut", x, x.wheels(6), 2);
        Check.fine("three", x, x.wheels(3), 2);
    }
}
