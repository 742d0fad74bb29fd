/** Promises 18 to 26: what is done, and promises 51, 52: MARKS. */
public final class DeedsTest {
    public static void main(String[] args) {
        pass();
        bite();
        recite();
        drop();
        strike();
        teach();
        lane();
        priceAndRule();
        marks();
        marksKeepAll();
        Check.end();
    }

    private static void pass() {
        TinFen x = Check.ann();
        Check.refused("tin 4", x, x.pass(4, 0), 2);
        Check.refused("tin -1", x, x.pass(-1, 0), 2);
        Check.refused("person 4", x, x.pass(0, 4), 2);
        Check.refused("person -1", x, x.pass(0, -1), 2);
        Check.refused("not TRUE", x, x.pass(2, 3), 9);
        Check.refused("they do not MEET", x, x.pass(1, 3), 9);
        Check.refused("to himself", x, x.pass(1, 0), 9);
        Check.fine("LEAD passes", x, x.pass(2, 1), 9);
        Check.fine("another one by the same", x, x.pass(1, 1), 11);
        Check.fine("back", x, x.pass(1, 0), 2);
        Check.fine("GOT of ann", x, x.person(0, 3), 11);
        Check.fine("PASSES", x, x.many(5), 3);
        Check.fine("PASSED", x, x.tin(1, 4), 2);
        Check.fine("HELD", x, x.tin(1, 3), 3);
        Check.fine("who has it", x, x.tin(2, 1), 1);
        x.bite(2);
        Check.refused("GONE", x, x.pass(2, 2), 9);
        Check.fine("nothing changed", x, x.person(1, 3), 2);
    }

    private static void bite() {
        TinFen x = Check.ann();
        Check.refused("tin 4", x, x.bite(4), 2);
        Check.refused("tin -1", x, x.bite(-1), 2);
        Check.fine("sound", x, x.bite(0), 0);
        Check.fine("it stays", x, x.tin(0, 1), 1);
        x.rule(0);
        Check.fine("LEAD, whatever the ODDS", x, x.bite(3), 1);
        Check.fine("FOUND", x, x.many(7), 8);
        Check.fine("GONE", x, x.many(6), 8);
        Check.refused("once more", x, x.bite(3), 9);
        x.drop(0);
        Check.refused("sound and GONE", x, x.bite(0), 9);
    }

    private static void recite() {
        TinFen x = Check.ann();
        Check.refused("tin 4", x, x.recite(4, 0), 2);
        Check.refused("person 4", x, x.recite(0, 4), 2);
        Check.refused("person -1", x, x.recite(0, -1), 2);
        Check.refused("not TRUE", x, x.recite(0, 3), 9);
        Check.refused("ON him", x, x.recite(3, 3), 9);
        Check.fine("without a LANE", x, x.recite(1, 3));
        Check.fine("ON him now", x, x.tin(1, 1), 3);
        Check.fine("HELD", x, x.tin(1, 3), 9);
        Check.fine("no PASS", x, x.many(5), 0);
        Check.fine("nobody GOT", x, x.person(0, 3), 0);
        x.drop(1);
        Check.fine("GONE, to him who had it", x, x.recite(1, 3));
        Check.fine("not GONE", x, x.many(6), 0);
        x.drop(2);
        Check.fine("LEAD that is thrown away", x, x.recite(2, 2));
        x.bite(2);
        Check.refused("FOUND", x, x.recite(2, 1), 9);
        Check.fine("HELD as it was", x, x.tin(2, 3), 5);
    }

    private static void drop() {
        TinFen x = Check.ann();
        Check.refused("tin 4", x, x.drop(4), 2);
        Check.refused("tin -1", x, x.drop(-1), 2);
        Check.fine("sound", x, x.drop(0), 1);
        Check.fine("LEAD", x, x.drop(3), 3);
        Check.fine("GONE", x, x.many(6), 9);
        Check.fine("not FOUND", x, x.many(7), 0);
        Check.fine("HELD stays", x, x.tin(3, 3), 8);
        Check.refused("GONE already", x, x.drop(0), 9);
        x.bite(2);
        Check.refused("FOUND already", x, x.drop(2), 9);
    }

    private static void strike() {
        TinFen x = Check.ann();
        Check.refused("trait 3", x, x.strike(3, 0, true), 2);
        Check.refused("trait -1", x, x.strike(-1, 0, true), 2);
        Check.refused("person 4", x, x.strike(0, 4, true), 2);
        Check.refused("person -1", x, x.strike(0, -1, true), 2);
        Check.fine("LEAD", x, x.strike(2, 3, true), 4);
        Check.fine("its TRAIT", x, x.tin(4, 0), 2);
        Check.fine("who has it", x, x.tin(4, 1), 3);
        Check.fine("LEAD", x, x.tin(4, 2), 1);
        Check.fine("HELD", x, x.tin(4, 3), 8);
        Check.fine("PASSED", x, x.tin(4, 4), 0);
        for (int i = 5; i < 9; i++) {
            Check.fine("sound", x, x.strike(0, 0, false), i);
            Check.fine("sound", x, x.tin(i, 2), 0);
        }
        Check.refused("a tenth", x, x.strike(0, 0, false), 7);
        Check.refused("a tenth of no TRAIT", x, x.strike(3, 0, false), 2);
        Check.fine("nine", x, x.many(3), 9);
        Check.fine("it can be PASSED", x, x.pass(4, 2), 9);
        Check.fault("it has no NAME", x, Check.years(x, "bite e;"), 3, 5);
    }

    private static void teach() {
        TinFen x = Check.ann();
        Check.refused("person 4", x, x.teach(4, 0, true), 2);
        Check.refused("person -1", x, x.teach(-1, 0, true), 2);
        Check.refused("trait 3", x, x.teach(0, 3, true), 2);
        Check.refused("trait -1", x, x.teach(0, -1, false), 2);
        Check.refused("it is TRUE", x, x.teach(0, 0, true), 9);
        Check.refused("it is not TRUE", x, x.teach(0, 2, false), 9);
        Check.fine("not any more", x, x.teach(0, 0, false));
        Check.fine("set", x, x.person(0, 0), 2);
        Check.fine("from now on", x, x.teach(0, 2, true));
        Check.fine("set", x, x.person(0, 0), 6);
        Check.fine("others stay", x, x.person(1, 0), 6);
    }

    private static void lane() {
        TinFen x = Check.ann();
        Check.refused("person 4", x, x.lane(4, 4), 2);
        Check.refused("other -1", x, x.lane(0, -1), 2);
        Check.refused("himself", x, x.lane(2, 2), 5);
        Check.fine("a LANE", x, x.lane(3, 1), 5);
        Check.fine("MEET", x, x.person(1, 1), 13);
        Check.fine("MEET", x, x.person(3, 1), 6);
        for (int i = 6; i <= 12; i++) {
            Check.fine("told again", x, x.lane(1, 3), i);
        }
        Check.refused("a 13th", x, x.lane(0, 3), 7);
        Check.refused("a 13th to himself", x, x.lane(0, 0), 5);
        Check.fine("MEET", x, x.person(0, 1), 6);
        Check.fine("twelve", x, x.many(2), 12);
    }

    private static void priceAndRule() {
        TinFen x = Check.ann();
        Check.refused("trait 3", x, x.price(3, 100), 2);
        Check.refused("trait -1", x, x.price(-1, 1), 2);
        Check.refused("100", x, x.price(0, 100), 5);
        Check.refused("-1", x, x.price(0, -1), 5);
        x.pass(2, 1);
        Check.fine("99", x, x.price(2, 99));
        Check.fine("GOT ahead stays", x, x.person(0, 3), 9);
        Check.fine("from now on", x, x.pass(2, 2), 99);
        Check.fine("0", x, x.price(2, 0));
        Check.fine("0", x, x.worth(2), 0);
        Check.refused("rule -1", x, x.rule(-1), 5);
        Check.refused("rule 17", x, x.rule(17), 5);
        Check.fine("rule 0", x, x.rule(0));
        Check.fine("0", x, x.many(4), 0);
        Check.fine("rule 16", x, x.rule(16));
        Check.fine("16", x, x.many(4), 16);
    }

    private static void marks() {
        TinFen x = new TinFen();
        Check.refused("no MARK", x, x.back(), 8);
        Check.fine("first", x, x.mark(), 1);
        Check.fen(x, Check.ANN);
        Check.fine("second", x, x.mark(), 2);
        x.pass(2, 1);
        Check.fine("third", x, x.mark(), 3);
        x.bite(2);
        Check.refused("a fourth", x, x.mark(), 7);
        Check.fine("to the third", x, x.back(), 2);
        Check.fine("on ben", x, x.tin(2, 1), 1);
        Check.fine("a third anew", x, x.mark(), 3);
        Check.fine("back", x, x.back(), 2);
        Check.fine("to the second", x, x.back(), 1);
        Check.fine("on ann", x, x.tin(2, 1), 0);
        Check.fine("to the first", x, x.back(), 0);
        Check.fine("nobody", x, x.many(1), 0);
        Check.refused("none left", x, x.back(), 8);
    }

    private static void marksKeepAll() {
        TinFen x = Check.ann();
        Check.years(x, "any; any; stop;");
        x.pass(2, 1);
        x.drop(0);
        x.mark();
        x.tray(0, 0, 2);
        x.write(0, 1, 4);
        Check.fine("lived", x, x.live(5), 3);
        int missed = x.lived(0);
        x.share(0);
        long bottom = x.bottom();
        x.price(0, 1);
        x.rule(1);
        x.teach(3, 0, true);
        x.lane(0, 3);
        x.strike(0, 0, true);
        x.bite(3);
        x.recite(0, 0);
        Check.fen(x, "person p;odds 77;");
        Check.fen(x, "person p;");
        Check.fine("back", x, x.back(), 0);
        int[] due = {3, 4, 4, 4, 4, 1, 1, 0, 12, 13};
        for (int what = 0; what < 10; what++) {
            Check.fine("many " + what, x, x.many(what), due[what]);
        }
        Check.fine("WORTH", x, x.worth(0), 5);
        Check.fine("TRUE", x, x.person(3, 0), 2);
        Check.fine("MEET", x, x.person(3, 1), 4);
        Check.fine("GOT", x, x.person(0, 3), 9);
        Check.fine("HELD", x, x.tin(2, 3), 3);
        Check.fine("PASSED", x, x.tin(2, 4), 1);
        Check.fine("TRAYS stay", x, x.read(0, 1), 4);
        Check.due("the FRACTION stays", x.bottom(), bottom);
        Check.due("the FAULT stays", x.fault(0), 0);
        Check.fine("what live() told stays", x, x.lived(0), missed);
        Check.fine("the YEARS are back", x, x.live(5), 3);
        Check.fine("NAMES are back", x, Check.years(x, "pass c cyd;learn dot wit;bite d;"), 3);
        x.mark();
        Check.fen(x, "trait u worth 1;trait v worth 1;trait w worth 1;person k;person l;person m;person n;");
        x.back();
        Check.fine("NAMES are back again", x, Check.years(x, "pass c cyd;learn dot wit;lose ann hand;"), 3);
        Check.fault("not those in between", x, Check.years(x, "learn dot u;"), 3, 10);
    }
}
