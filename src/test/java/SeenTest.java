/** Promises 41 to 43: what was seen. */
public final class SeenTest {
    public static void main(String[] args) {
        fits();
        ask();
        refused();
        sixTraits();
        Check.end();
    }

    private static void twos(TinFen x, int tray, long... numbers) {
        x.tray(tray, 3, numbers.length);
        for (int i = 0; i < numbers.length; i++) {
            x.write(tray, i, numbers[i]);
        }
    }

    private static void fits() {
        TinFen x = Check.ann();
        twos(x, 1, 0, 1, 2, 2, 9, 9);
        Check.fine("all sets", x, x.whose(1, 0), 8);
        Check.fine("in none of all", x, x.sure(1, 0), 0);
        Check.fine("hand or ear, wit or not", x, x.whose(1, 1), 4);
        Check.fine("nothing sure", x, x.sure(1, 1), 0);
        Check.fine("hand and wit", x, x.whose(1, 2), 1);
        Check.fine("hand and wit", x, x.sure(1, 2), 5);
        twos(x, 1, 3, 1);
        Check.fine("ear", x, x.whose(1, 1), 4);
        Check.fine("ear is sure", x, x.sure(1, 1), 2);
        twos(x, 1, 3, 2);
        Check.fine("never two of dot", x, x.whose(1, 1), 0);
        Check.refused("of none nothing is sure", x, x.sure(1, 1), 8);
        Check.refused("of none nobody is asked", x, x.ask(1, 1), 8);
        twos(x, 1, 0, 6);
        Check.fine("6 can be", x, x.whose(1, 1), 0);
    }

    private static void ask() {
        TinFen x = Check.ann();
        twos(x, 0, 0, 1, 1, 1, 2, 1, 3, 1);
        Check.fine("the first of equals", x, x.ask(0, 0), 0);
        Check.fine("ben parts by 1, 2, 1", x, x.ask(0, 1), 1);
        Check.fine("of two sets", x, x.whose(0, 2), 2);
        Check.fine("cyd parts them", x, x.ask(0, 2), 2);
        twos(x, 0, 3, 1, 2, 0, 1, 1, 0, 1);
        Check.refused("one set alone", x, x.ask(0, 4), 8);
        TinFen y = Check.of("trait a worth 0;trait b worth 0;person p;person q is a;person r is a b;");
        twos(y, 0, 2, 1, 1, 1, 0, 0);
        Check.fine("the best comes later", y, y.ask(0, 0), 1);
        Check.fine("not him who is told", y, y.ask(0, 1), 1);
        Check.refused("one is left by q", y, y.ask(0, 2), 8);
        TinFen z = Check.of("trait a worth 0;person p;");
        twos(z, 0, 0, 0);
        Check.fine("nothing parts them", z, z.ask(0, 0), 0);
        Check.refused("nobody is left", z, z.ask(0, 1), 8);
        Check.fine("though two sets are", z, z.whose(0, 1), 2);
    }

    private interface Asked {
        int answer(TinFen x, int tray, int n);
    }

    private static void refused() {
        Asked[] calls = {(x, t, n) -> x.whose(t, n), (x, t, n) -> x.sure(t, n), (x, t, n) -> x.ask(t, n)};
        for (Asked call : calls) {
            TinFen x = Check.ann();
            Check.refused("tray 4", x, call.answer(x, 4, -1), 1);
            Check.refused("tray -1", x, call.answer(x, -1, 0), 1);
            Check.refused("MISSING", x, call.answer(x, 0, -1), 3);
            twos(x, 0, 0, 1, 0, 1, 1);
            Check.refused("half a two", x, call.answer(x, 0, 3), 4);
            Check.refused("too few comes ahead of 8 twos", x, call.answer(x, 0, 8), 4);
            Check.refused("very many", x, call.answer(x, 0, Integer.MAX_VALUE), 4);
            Check.refused("-1", x, call.answer(x, 0, -1), 5);
            Check.refused("least", x, call.answer(x, 0, Integer.MIN_VALUE), 5);
            Check.refused("a PERSON twice", x, call.answer(x, 0, 2), 5);
            x.tray(0, 0, 16);
            Check.refused("8", x, call.answer(x, 0, 8), 5);
            twos(x, 0, 4, 1);
            Check.refused("no such PERSON", x, call.answer(x, 0, 1), 5);
            twos(x, 0, -1, 1);
            Check.refused("PERSON -1", x, call.answer(x, 0, 1), 5);
            twos(x, 0, 1L << 32, 1);
            Check.refused("a far PERSON", x, call.answer(x, 0, 1), 5);
            twos(x, 0, 0, 7);
            Check.refused("seven TRAITS", x, call.answer(x, 0, 1), 5);
            twos(x, 0, 0, -1);
            Check.refused("-1 TRAITS", x, call.answer(x, 0, 1), 5);
            twos(x, 0, 0, 1L << 32);
            Check.refused("far too many TRAITS", x, call.answer(x, 0, 1), 5);
        }
    }

    private static void sixTraits() {
        TinFen x = Check.of("trait a worth 0;trait b worth 0;trait c worth 0;trait d worth 0;trait e worth 0;trait f worth 0;"
            + "person p is a b c d e f;person q is f;person r is a b c;");
        twos(x, 2, 0, 6, 1, 1, 2, 3);
        Check.fine("all 64", x, x.whose(2, 0), 64);
        Check.fine("nothing sure", x, x.sure(2, 0), 0);
        Check.fine("by six", x, x.ask(2, 0), 0);
        Check.fine("all six", x, x.whose(2, 1), 1);
        Check.fine("all six are sure", x, x.sure(2, 1), 63);
        Check.fine("all told", x, x.whose(2, 3), 1);
        twos(x, 2, 0, 5);
        Check.fine("all but one", x, x.whose(2, 1), 6);
        Check.fine("r parts by three and three, q by one and five", x, x.ask(2, 1), 2);
    }
}
