/** Promise 11: YEARS and their FAULTS, promises 48 to 50: LIVED, and the mean. */
public final class YearsTest {
    public static void main(String[] args) {
        yearsTaken();
        yearsRefused();
        faultsOfPlaces();
        faultsOfNames();
        faultsOfNumbersAndLimits();
        liveRefused();
        passAndMissed();
        learnAndLose();
        bites();
        any();
        tests();
        loops();
        atMost300();
        stop();
        livedStays();
        mean();
        meanRefused();
        Check.end();
    }

    private static void yearsTaken() {
        TinFen x = Check.ann();
        Check.fine("none", x, x.years(0), 0);
        Check.fine("empty YEARS are there", x, x.live(0), 0);
        Check.fine("all kinds", x, Check.years(x, "pass c ben;bite b;learn dot wit;lose dot wit;any;when on c cyd;stop;end;"
            + "when gone c;end;when got ann>9999;end;when got ben<0;end;when got cyd=0012;end;loop 99;loop 1;any;end;end;stop;"), 15);
        Check.due("the tape is empty", x.feed(0, 0, 0, 0, 0), 20);
        Check.fault("a byte 0", x, x.years(20), 1, 0);
        Check.due("the tape is empty", x.feed(0x20202020, 0x20202020, 0x20202020, 0x20202020, 0x20202020), 20);
        Check.fine("only the first bytes", x, x.years(3), 0);
        Check.fine("300 bytes", x, Check.years(x, Check.times("any;", 30) + Check.times(" ", 180)), 30);
        Check.fine("three within another", x, Check.years(x, "loop 1;when gone a;loop 2;stop;end;end;end;loop 3;end;"), 5);
    }

    private static void yearsRefused() {
        TinFen x = Check.ann();
        Check.years(x, "any;any;");
        Check.refused("1 of none", x, x.years(1), 5);
        Check.refused("-1", x, x.years(-1), 5);
        Check.feedText(x, Check.times(" ", 320));
        Check.refused("301", x, x.years(301), 5);
        Check.due("the tape stays", x.feed(0, 0, 0, 0, 0), 340);
        Check.fine("300", x, x.years(300), 0);
        Check.years(x, "any;any;");
        Check.fault("go", x, Check.years(x, "any; go;"), 2, 5);
        Check.fine("the old ones stay", x, x.live(0), 2);
        Check.fen(x, Check.ANN);
        Check.refused("a new FEN has none", x, x.live(0), 8);
    }

    private static void faultsOfPlaces() {
        Check.yearsFault("!", 1, 0);
        Check.yearsFault("any!", 1, 3);
        Check.yearsFault("loop 12345;", 1, 5);
        Check.yearsFault("when got ann > 10000;", 1, 15);
        Check.yearsFault("ann;", 2, 0);
        Check.yearsFault("odds 4;", 2, 0);
        Check.yearsFault(";", 2, 0);
        Check.yearsFault("7", 2, 0);
        Check.yearsFault("end;", 2, 0);
        Check.yearsFault("loop 1;end;end;", 2, 11);
        Check.yearsFault("loop 1;end", 2, 10);
        Check.yearsFault("loop 1;any; ", 2, 12);
        Check.yearsFault("loop 1;loop 1;end;", 2, 18);
        Check.yearsFault("any", 2, 3);
        Check.yearsFault("stop any;", 2, 5);
        Check.yearsFault("pass;", 2, 4);
        Check.yearsFault("pass a;", 2, 6);
        Check.yearsFault("pass a ann ann;", 2, 11);
        Check.yearsFault("pass abcdefghi ann;", 2, 5);
        Check.yearsFault("pass a on;", 2, 7);
        Check.yearsFault("bite 1;", 2, 5);
        Check.yearsFault("learn ann;", 2, 9);
        Check.yearsFault("lose ann is;", 2, 9);
        Check.yearsFault("loop x;", 2, 5);
        Check.yearsFault("loop;", 2, 4);
        Check.yearsFault("when;", 2, 4);
        Check.yearsFault("when a;", 2, 5);
        Check.yearsFault("when on a;", 2, 9);
        Check.yearsFault("when gone;", 2, 9);
        Check.yearsFault("when got ann;", 2, 12);
        Check.yearsFault("when got ann ; 1;", 2, 13);
        Check.yearsFault("when got ann <;end;", 2, 14);
        Check.yearsFault("loop 7 7;end;", 2, 7);
        Check.yearsFault("when gone a", 2, 11);
        Check.yearsFault("when got ann < ann;", 2, 15);
        Check.yearsFault("when got ann < = 1;", 2, 15);
        Check.yearsFault("when got ann < 1 end;", 2, 17);
    }

    private static void faultsOfNames() {
        Check.yearsFault("pass ann ann;", 3, 5);
        Check.yearsFault("pass e ann;", 3, 5);
        Check.yearsFault("pass a a;", 3, 7);
        Check.yearsFault("pass a hand;", 3, 7);
        Check.yearsFault("bite ann;", 3, 5);
        Check.yearsFault("bite hand;", 3, 5);
        Check.yearsFault("learn a ear;", 3, 6);
        Check.yearsFault("learn ann a;", 3, 10);
        Check.yearsFault("lose ear ear;", 3, 5);
        Check.yearsFault("lose ann ben;", 3, 9);
        Check.yearsFault("when on ann ann;", 3, 8);
        Check.yearsFault("when on a a;", 3, 10);
        Check.yearsFault("when gone ann;", 3, 10);
        Check.yearsFault("when got a > 1;", 3, 9);
        Check.yearsFault("when got zoe ! 1;", 3, 9);
        TinFen x = new TinFen();
        Check.fault("of nobody", x, Check.years(x, "any; bite a;"), 3, 10);
        Check.fine("any of nobody", x, Check.years(x, "any;"), 1);
    }

    private static void faultsOfNumbersAndLimits() {
        Check.yearsFault("loop 0;", 4, 5);
        Check.yearsFault("loop 100;", 4, 5);
        Check.yearsFault("loop 9999", 4, 5);
        Check.yearsFault("loop 1;loop 1;loop 1;loop", 7, 21);
        Check.yearsFault("loop 1;when gone a;loop 1;when", 7, 26);
        Check.yearsFault(Check.times("any;", 30) + "any", 6, 120);
        Check.yearsFault(Check.times("any;", 30) + "end;", 2, 120);
        Check.yearsFault(Check.times("any;", 30) + "go;", 2, 120);
        Check.yearsFault("loop 1;loop 1;loop 1;" + Check.times("any;", 27) + "loop 1;", 6, 129);
        TinFen x = Check.ann();
        Check.fine("end is none", x, Check.years(x, "loop 1;loop 1;loop 1;" + Check.times("any;", 27) + "end;end;end;"), 30);
        Check.fine("fifteen loops beside", x, Check.years(x, Check.times("loop 2;end;", 15)), 15);
    }

    private static void liveRefused() {
        TinFen x = Check.ann();
        Check.refused("no YEARS", x, x.live(0), 8);
        Check.refused("seed -1", x, x.live(-1), 5);
        Check.refused("seed 10000", x, x.live(10000), 5);
        Check.refused("lived, none", x, x.lived(4), 8);
        Check.refused("lived 5", x, x.lived(5), 5);
        Check.refused("lived -1", x, x.lived(-1), 5);
        Check.years(x, "any;");
        Check.fine("seed 9999", x, x.live(9999), 1);
        Check.refused("lived 5", x, x.lived(5), 5);
    }

    private static void lived(String what, TinFen x, int... due) {
        for (int i = 0; i < due.length; i++) {
            Check.fine(what + ", lived " + i, x, x.lived(i), due[i]);
        }
    }

    private static void passAndMissed() {
        TinFen x = Check.ann();
        Check.years(x, "pass c ben;pass c ann;pass c cyd;pass b dot;pass b ann;pass b ben;pass d cyd;");
        x.pass(0, 0);
        Check.fine("MISSED are done, too", x, x.live(0), 7);
        lived("passes", x, 4, 3, 0, 20, 0);
        Check.fine("GOT by ann", x, x.person(0, 3), 11);
        Check.fine("GOT by ben", x, x.person(1, 3), 14);
        Check.fine("PASSES, those ahead, too", x, x.many(5), 4);
        Check.fine("c on cyd", x, x.tin(2, 1), 2);
        Check.fine("HELD", x, x.tin(2, 3), 7);
        x.drop(2);
        Check.fine("once more", x, x.live(0), 7);
        Check.fine("what is GONE is MISSED", x, x.lived(0), 5);
    }

    private static void learnAndLose() {
        TinFen x = Check.ann();
        Check.years(x, "learn dot wit;learn dot wit;lose ann hand;lose ann hand;lose cyd ear;");
        Check.fine("done", x, x.live(0), 5);
        lived("learn", x, 3, 0, 0, 0, 0);
        Check.fine("dot", x, x.person(3, 0), 6);
        Check.fine("ann", x, x.person(0, 0), 2);
    }

    private static int next(int s) {
        return (s * 2971 + 10891) % 65536;
    }

    private static void bites() {
        int found = 0;
        for (int seed = 0; seed < 40; seed++) {
            TinFen x = Check.ann();
            Check.years(x, "bite a;bite c;bite d;bite c;");
            Check.fine("done", x, x.live(seed), 4);
            // the sound one makes no draw, nor does what is GONE
            int s = next(seed);
            boolean c = s / 8 % 16 < 4;
            s = next(s);
            boolean d = s / 8 % 16 < 4;
            boolean again = !c && next(s) / 8 % 16 < 4;
            int due = (c || again ? 4 : 0) | (d ? 8 : 0);
            found += Integer.bitCount(due);
            Check.fine("FOUND by seed " + seed, x, x.many(7), due);
            Check.fine("GONE by seed " + seed, x, x.many(6), due);
            lived("bites", x, 4 - Integer.bitCount(due), 0, Integer.bitCount(due), 0, 0);
        }
        Check.due("some are FOUND, some are not", found > 0 && found < 80, true);
        TinFen x = Check.ann();
        x.bite(3);
        x.rule(16);
        Check.years(x, "bite c;bite d;");
        x.live(77);
        Check.fine("only what is FOUND in them counts", x, x.lived(2), 1);
        TinFen y = Check.ann();
        y.rule(0);
        Check.years(y, "loop 50;bite c;end;");
        y.live(5);
        Check.fine("never below 0", y, y.lived(0), 50);
    }

    private static void any() {
        int passes = 0;
        for (int seed = 100; seed < 160; seed++) {
            TinFen x = Check.ann();
            Check.years(x, "any;");
            int s = next(seed);
            int tin = s / 8 % 4;
            int person = next(s) / 8 % 4;
            boolean can = (x.next(tin) >> person & 1) != 0;
            passes += can ? 1 : 0;
            Check.fine("done", x, x.live(seed), 1);
            Check.fine("PASSED by seed " + seed, x, x.tin(tin, 4), can ? 1 : 0);
            Check.fine("MISSED by seed " + seed, x, x.lived(0), can ? 0 : 1);
            if (can) {
                Check.fine("to whom by seed " + seed, x, x.tin(tin, 1), person);
            }
        }
        Check.due("some are PASSED, some are not", passes > 0 && passes < 60, true);
        TinFen none = Check.of("person p;person q;lane p q;");
        Check.years(none, "any;any;");
        Check.fine("without TINS", none, none.live(3), 2);
        Check.fine("MISSED", none, none.lived(0), 2);
        // one TIN alone: both draws are made
        for (int seed = 0; seed < 20; seed++) {
            TinFen one = Check.of("trait t worth 1;person p is t;person q is t;person r is t;lane p q;lane p r;tin a of t on p;");
            Check.years(one, "any;");
            one.live(seed);
            int person = next(next(seed)) / 8 % 3;
            Check.fine("one TIN by seed " + seed, one, one.tin(0, 1), person);
        }
        // what was struck, and what is GONE, is drawn, too
        TinFen x = Check.of("trait t worth 1;person p is t;person q is t;lane p q;tin a of t on p;");
        x.drop(0);
        x.strike(0, 0, false);
        Check.years(x, "any;");
        int s = next(4);
        int tin = s / 8 % 2;
        int person = next(s) / 8 % 2;
        x.live(4);
        Check.fine("of two TINS", x, x.lived(1), tin == 1 && person == 1 ? 1 : 0);
    }

    private static void tests() {
        String[] tests = {"on b ann", "on b ben", "gone a", "gone b", "got ann > 8", "got ann > 9", "got ann < 9",
            "got ann < 10", "got ann = 9", "got ann = 8", "on a ben", "got dot = 0"};
        boolean[] due = {true, false, true, false, true, false, false, true, true, false, false, true};
        for (int i = 0; i < tests.length; i++) {
            TinFen x = Check.ann();
            x.pass(2, 1);
            x.drop(0);
            Check.years(x, "when " + tests[i] + ";lose dot ear;end;learn ann wit;");
            Check.fine("when " + tests[i], x, x.live(0), due[i] ? 3 : 2);
            Check.fine("within", x, x.person(3, 0), due[i] ? 0 : 2);
            Check.fine("behind", x, x.person(0, 0), 7);
        }
    }

    private static void loops() {
        TinFen x = Check.ann();
        Check.years(x, "loop 3;pass b ben;pass b ann;end;");
        Check.fine("one and three times two", x, x.live(0), 7);
        lived("loop", x, 0, 6, 0, 12, 0);
        Check.years(x, "loop 2;loop 3;pass b ben;end;pass b ann;end;");
        Check.fine("loops within", x, x.live(0), 1 + 2 * (1 + 3 + 1));
        lived("loop", x, 4, 4, 0, 8, 0);
        Check.years(x, "loop 4;when on b ann;pass b ben;end;when on b ben;pass b ann;end;end;");
        Check.fine("when counts each time", x, x.live(0), 1 + 4 * 4);
        Check.years(x, "loop 4;when on b ann;pass b ben;end;end;");
        Check.fine("when it does not hold, it counts, too", x, x.live(0), 1 + 2 + 3);
        Check.years(x, "loop 99;end;loop 99;when gone a;end;end;");
        Check.fine("empty", x, x.live(0), 1 + 1 + 99);
    }

    private static void atMost300() {
        TinFen x = Check.ann();
        Check.years(x, "loop 99;any;any;any;end;any;any;");
        Check.fine("just 300", x, x.live(0), 300);
        Check.fine("nothing left", x, x.lived(4), 0);
        Check.years(x, "loop 99;any;any;any;end;any;any;any;");
        Check.fine("300 of 301", x, x.live(0), 300);
        Check.fine("one left", x, x.lived(4), 1);
        Check.years(x, "loop 99;any;any;any;end;any;any;when gone a;end;");
        Check.fine("a when is left", x, x.live(0), 300);
        Check.fine("a when is left", x, x.lived(4), 1);
        Check.years(x, "loop 99;any;any;any;end;any;loop 9;end;");
        Check.fine("an end is no STEP", x, x.live(0), 300);
        Check.fine("nothing left", x, x.lived(4), 0);
        Check.years(x, "loop 99;loop 99;loop 99;end;end;end;");
        Check.fine("1, then 1 and 99 by turns", x, x.live(0), 300);
        Check.fine("much left", x, x.lived(4), 1);
        Check.years(x, "loop 99;any;any;any;end;any;stop;");
        Check.fine("stop is the last", x, x.live(0), 300);
        Check.fine("nothing left", x, x.lived(4), 0);
    }

    private static void stop() {
        TinFen x = Check.ann();
        Check.years(x, "loop 3;when on b ann;pass b ben;stop;end;end;pass b ann;");
        Check.fine("stop", x, x.live(0), 4);
        lived("stop", x, 0, 1, 0, 2, 0);
        Check.fine("on ben", x, x.tin(1, 1), 1);
    }

    private static void livedStays() {
        TinFen x = Check.ann();
        Check.years(x, "pass c ben;pass c ann;");
        x.live(1);
        x.mean(0, 5);
        x.live(-1);
        x.pass(1, 1);
        lived("stays", x, 1, 1, 0, 9, 0);
        Check.fen(x, "");
        Check.refused("no YEARS", x, x.live(0), 8);
        lived("of the latest with STATUS 0", x, 1, 1, 0, 9, 0);
    }

    private static void mean() {
        TinFen x = Check.ann();
        x.pass(2, 1);
        Check.years(x, "loop 20;any;end;bite c;bite d;");
        for (int seed = 0; seed < 9980; seed += 997) {
            for (int many = 1; many <= 20; many += 19) {
                Check.fine("mean", x, x.mean(seed, many));
                long top = x.top();
                long bottom = x.bottom();
                long all = 0;
                for (int i = 0; i < many; i++) {
                    x.mark();
                    x.live(seed + i);
                    for (int p = 0; p < 4; p++) {
                        all += x.person(p, 3);
                    }
                    x.back();
                }
                Check.due("mean of " + many, top * many, all * bottom);
                Check.due("no common divisor", java.math.BigInteger.valueOf(top).gcd(java.math.BigInteger.valueOf(bottom)).intValue(), 1);
            }
        }
        Check.fine("all stays", x, x.many(5), 1);
        Check.fine("all stays", x, x.many(6), 0);
        TinFen y = Check.ann();
        Check.years(y, "");
        Check.fraction("nobody GOT", y, y.mean(9999, 1), 0, 1);
        Check.fraction("nobody GOT", y, y.mean(9980, 20), 0, 1);
    }

    private static void meanRefused() {
        TinFen x = Check.ann();
        Check.refused("no YEARS", x, x.mean(0, 1), 8);
        Check.refused("none", x, x.mean(0, 0), 5);
        Check.years(x, "any;");
        x.share(0);
        Check.refused("0", x, x.mean(0, 0), 5);
        Check.refused("21", x, x.mean(0, 21), 5);
        Check.refused("seed -1", x, x.mean(-1, 5), 5);
        Check.refused("seed 10000", x, x.mean(10000, 1), 5);
        Check.refused("last above 9999", x, x.mean(9999, 2), 5);
        Check.refused("greatest", x, x.mean(Integer.MAX_VALUE, 20), 5);
        Check.due("the FRACTION stays", x.bottom(), 18);
    }
}
