import java.util.List;

/** The boundaries that section 4 and promises 48 to 52 name: YEARS, draws, MARKS. */
public final class Promises48To52EdgeTest {
    private static final int MIN = Integer.MIN_VALUE;
    private static final int MAX = Integer.MAX_VALUE;
    private static final List<String> WORDS = List.of("pass", "bite", "learn", "lose", "any", "when", "on", "got", "gone",
        "loop", "end", "stop");

    /** All MEET, all is TRUE of all: whatever is drawn can be PASSED, but to him who has it. */
    private static final String THREE = "trait t worth 7;person p is t;person q is t;person r is t;lane p q;lane q r;lane r p;"
        + "tin a of t on p;tin b of t on q lead;";

    public static void main(String[] args) {
        Edges.runAll(Promises48To52EdgeTest.class);
    }

    private static final Edges.Maker LIVED = () -> {
        TinFen x = Check.of(THREE);
        Check.years(x, "any;any;loop 4;any;end;");
        x.mark();
        x.live(3);
        x.tray(2, 1, 4);
        x.share(1);
        return x;
    };

    private static void taken(String text, int steps) {
        TinFen x = Check.of(THREE);
        Check.fine("years " + text, x, Check.years(x, text), steps);
        Check.due("years " + text + ", fault(0)", x.fault(0), 0);
        Check.due("years " + text + ", fault(1)", x.fault(1), -1);
    }

    /** The FAULT by its kind and place, and that the tape is empty then, and the old YEARS as they were. */
    private static void faulty(String text, int kind, int place) {
        TinFen x = LIVED.make();
        Check.fault("years " + text, x, Check.years(x, text), kind, place);
        Check.due("years " + text + ", the tape is empty", x.feed(0, 0, 0, 0, 0), 20);
        Edges.leavesFen("years " + text, LIVED, y -> Check.years(y, text));
    }

    private static TinFen lives(String text, int seed, int steps) {
        TinFen x = Check.of(THREE);
        Check.due("years " + text, Check.years(x, text) >= 0, true);
        Check.fine("live " + text, x, x.live(seed), steps);
        return x;
    }

    private static void lived(String what, TinFen x, int... due) {
        for (int i = 0; i < due.length; i++) {
            Check.fine(what + ", lived " + i, x, x.lived(i), due[i]);
        }
    }

    // ---- section 4: the text of YEARS

    private static void section4_yearsAreATextOfAtMost300Bytes() {
        taken("any;" + " ".repeat(292) + "any;", 2);
        faulty("any;" + " ".repeat(292) + "any ", 2, 300);
        faulty("any;" + " ".repeat(295) + "!", 1, 299);
        TinFen x = Check.of(THREE);
        Check.feedText(x, " ".repeat(301));
        Check.refused("301", x, x.years(301), 5);
    }

    private static void section4_noneAtFirst() {
        Edges.refuses("live", Edges.EMPTY, 8, x -> x.live(0));
        Edges.refuses("live", Edges.ANN, 8, x -> x.live(9999));
        Edges.denies("mean", Edges.ANN, 8, x -> x.mean(0, 20));
    }

    private static void section4_eachByteByItself() {
        for (int b = 0; b < 256; b++) {
            String text = String.valueOf((char) b);
            boolean blank = b == 10 || b == 32;
            boolean token = b >= 'a' && b <= 'z' || b >= '0' && b <= '9' || ";<>=".indexOf(b) >= 0;
            if (blank) {
                taken(text, 0);
            } else {
                faulty(text, token ? 2 : 1, 0);
            }
        }
    }

    /** YEARS cut short anywhere: the end can't stand there, or ahead of it a WORD that was cut; an end is missing. */
    private static void section4_theTextsEndAheadOfAnEnd() {
        String text = "pass v y;bite v;learn y x;lose y x;any;when on v y;end;when got y<9;end;when gone v;stop;end;"
            + "loop 9;loop 9;when got y=4;any;end;end;end;stop;";
        for (int n = 0; n <= text.length(); n++) {
            String cut = text.substring(0, n);
            TinFen x = Check.of("trait x worth 1;person y is x;tin v of x on y;");
            int steps = Check.years(x, cut);
            if ((cut.isEmpty() || cut.endsWith(";")) && opened(cut) == 0) {
                Check.due("taken: " + cut, steps >= 0, true);
            } else {
                String last = Edges.lastWord(cut);
                boolean broken = !last.isEmpty() && !"v x y".contains(last) && !WORDS.contains(last);
                Check.fault(cut, x, steps, 2, broken ? n - last.length() : n);
            }
        }
    }

    private static int opened(String text) {
        int open = 0;
        for (String step : text.split(";")) {
            open += step.startsWith("when") || step.startsWith("loop") ? 1 : step.equals("end") ? -1 : 0;
        }
        return open;
    }

    private static void section4_anEndWithoutABeginning() {
        faulty("end;", 2, 0);
        faulty("any;end;", 2, 4);
        faulty("loop 1;end;end;", 2, 11);
        faulty("when gone a;end; end;", 2, 17);
        faulty("loop 1;", 2, 7);
        faulty("loop 1;  ", 2, 9);
        faulty("loop 1;any", 2, 10);
        faulty("loop 1;end", 2, 10);
        faulty("loop 1;end any;end;", 2, 11);
        faulty("loop 1;end end;", 2, 11);
        taken("loop 1;end;", 1);
        taken("when gone a;end;", 1);
    }

    /** What was opened in YEARS that were refused is not open in those that come next. */
    private static void section4_nothingIsLeftOfYearsThatWereRefused() {
        TinFen x = Check.of(THREE);
        Check.fault("two are open", x, Check.years(x, "loop 1;loop 1;"), 2, 14);
        Check.fault("an end without a beginning", x, Check.years(x, "end;"), 2, 0);
        Check.fault("three are open", x, Check.years(x, "loop 1;loop 1;loop 1;"), 2, 21);
        Check.fine("three again", x, Check.years(x, "loop 1;loop 1;loop 1;end;end;end;"), 3);
        Check.fault("thirty-one", x, Check.years(x, "any;".repeat(31)), 6, 120);
        Check.fine("thirty", x, Check.years(x, "any;".repeat(30)), 30);
    }

    private static void section4_aNameThatIsNoSuchOne() {
        String[] forms = {"pass ? p;", "bite ?;", "when on ? p;end;", "when gone ?;end;"};
        for (String form : forms) {
            for (String name : new String[] {"p", "t", "c", "x"}) {
                faulty(form.replace("?", name), 3, form.indexOf('?'));
            }
        }
        String[] people = {"pass a ?;", "learn ? t;", "lose ? t;", "when on a ?;end;", "when got ?<1;end;"};
        for (String form : people) {
            for (String name : new String[] {"a", "t", "s", "x"}) {
                faulty(form.replace("?", name), 3, form.indexOf('?'));
            }
        }
        for (String form : new String[] {"learn p ?;", "lose p ?;"}) {
            for (String name : new String[] {"a", "p", "u", "x"}) {
                faulty(form.replace("?", name), 3, form.indexOf('?'));
            }
        }
    }

    private static void section4_aWordOfNineLettersOrOfTheFenWhereANameMustStand() {
        String[] forms = {"pass ? p;", "pass a ?;", "bite ?;", "learn ? t;", "learn p ?;", "lose ? t;", "lose p ?;",
            "when on ? p;end;", "when on a ?;end;", "when gone ?;end;", "when got ?<1;end;"};
        for (String form : forms) {
            for (String word : new String[] {"abcdefghi", "aaaaaaaaaaaaaaaaa", "odds", "pass", "end", "is", "7", ";", "<"}) {
                faulty(form.replace("?", word), 2, form.indexOf('?'));
            }
            faulty(form.replace("?", "A"), 1, form.indexOf('?'));
            faulty(form.replace("?", "12345"), 1, form.indexOf('?'));
            faulty(form.replace("?", "abcdefgh"), 3, form.indexOf('?'));
        }
    }

    private static void section4_wordsThatBeginNoStep() {
        for (String word : new String[] {"odds", "trait", "worth", "person", "is", "lane", "tin", "of", "on", "lead", "got", "gone",
            "p", "a", "t", "go", "anys", "passa"}) {
            faulty(word + ";", 2, 0);
            faulty("any;" + word + ";", 2, 4);
        }
        for (String test : new String[] {"when ;", "when a;", "when end;", "when pass;", "when loop;", "when 1;", "when is;"}) {
            faulty(test, 2, 5);
        }
    }

    private static void section4_comparesAreThree() {
        taken("when got p<1;end;when got p>1;end;when got p=1;end;", 3);
        faulty("when got p;end;", 2, 10);
        faulty("when got p 1;end;", 2, 11);
        faulty("when got p<=1;end;", 2, 11);
        faulty("when got p!1;end;", 1, 10);
        faulty("when got p on 1;end;", 2, 11);
        faulty("when got p<p;end;", 2, 11);
    }

    private static void section4_loopIs1To99() {
        taken("loop 1;end;loop 99;end;loop 0001;end;loop 0099;end;", 4);
        faulty("loop 0;end;", 4, 5);
        faulty("loop 00;end;", 4, 5);
        faulty("loop 100;end;", 4, 5);
        faulty("loop 9999;end;", 4, 5);
        faulty("loop 10000;end;", 1, 5);
        faulty("loop -1;end;", 1, 5);
        faulty("loop;end;", 2, 4);
    }

    private static void section4_gotIs0To9999() {
        taken("when got p<0;end;when got p>9999;end;when got p=0000;end;", 3);
        faulty("when got p<10000;end;", 1, 11);
        faulty("when got p<00000;end;", 1, 11);
        faulty("when got p<-1;end;", 1, 11);
    }

    private static void section4_atMost30Steps() {
        taken("any;".repeat(30), 30);
        faulty("any;".repeat(31), 6, 120);
        faulty("any;".repeat(30) + " any", 6, 121);
        String[] steps = {"pass a p;", "bite a;", "learn p t;", "lose p t;", "any;", "stop;", "when gone a;end;", "loop 1;end;"};
        for (String step : steps) {
            taken("any;".repeat(29) + step, 30);
            faulty("any;".repeat(30) + step, 6, 120);
        }
    }

    private static void section4_endIsNoStep() {
        taken("loop 1;end;".repeat(15), 15);
        taken("loop 1;loop 1;loop 1;" + "any;".repeat(27) + "end;end;end;", 30);
        faulty("loop 1;loop 1;loop 1;" + "any;".repeat(27) + "any;end;end;end;", 6, 129);
        faulty("any;".repeat(30) + "end;", 2, 120);
    }

    private static void section4_withinThreeOthers() {
        for (int i = 0; i < 8; i++) {
            StringBuilder text = new StringBuilder();
            for (int k = 0; k < 3; k++) {
                text.append((i >> k & 1) == 0 ? "loop 2;" : "when gone a;");
            }
            taken(text + "any;end;end;end;", 4);
            taken(text + "end;loop 2;end;when gone b;end;end;end;", 5);
            faulty(text + "loop 2;end;end;end;end;", 7, text.length());
            faulty(text + "when gone b;end;end;end;end;", 7, text.length());
            faulty(text + "when", 7, text.length());
            faulty(text + "loop", 7, text.length());
            faulty(text + "end;when gone a;loop", 7, text.length() + 16);
        }
    }

    private static void section4_ofOneTokenTheLeastKind() {
        // 6 and 7: a 31st STEP that would stand within three others
        faulty("loop 1;loop 1;loop 1;" + "any;".repeat(27) + "loop 1;", 6, 129);
        faulty("loop 1;loop 1;loop 1;" + "any;".repeat(27) + "when", 6, 129);
        // 2 and 6: what is no STEP, behind thirty
        faulty("any;".repeat(30) + "go;", 2, 120);
        faulty("any;".repeat(30) + ";", 2, 120);
        faulty("any;".repeat(30) + "!", 1, 120);
        // 1 and 4: five digits, 2 and 3: nine letters
        faulty("loop 99999;", 1, 5);
        faulty("bite aaaaaaaaa;", 2, 5);
        // 2 and 7: a loop where none can stand
        faulty("loop 1;loop 1;loop 1;pass loop;", 2, 26);
    }

    private static void section4_theFirstFaultAlongTheText() {
        faulty("loop 0;!", 4, 5);
        faulty("bite z;end;", 3, 5);
        faulty("loop 1;loop 1;loop 1;loop 0;", 7, 21);
        faulty("pass a z!", 3, 7);
        faulty("pass z abcdefghi;", 3, 5);
    }

    private static void section4_namesOfTheFenOfNow() {
        TinFen x = Check.of(THREE);
        Check.fen(x, "trait z worth 1;person y;tin w of z on y;");
        Check.fine("the NAMES of now", x, Check.years(x, "pass w y;learn y z;"), 2);
        Check.fault("not those ahead", x, Check.years(x, "bite a;"), 3, 5);
        x.strike(0, 0, false);
        Check.fault("what was struck has no NAME", x, Check.years(x, "bite v;"), 3, 5);
    }

    // ---- section 4: how YEARS are lived

    private static long next(long s) {
        return (s * 2971 + 10891) % 65536;
    }

    /** A draw that is just ODDS finds nothing, one below does. */
    private static void section4_foundIfTheDrawIsBelowOdds() {
        boolean[] drawn = new boolean[16];
        for (int seed = 0; seed < 200; seed++) {
            int draw = (int) (next(seed) / 8 % 16);
            drawn[draw] = true;
            for (int odds : new int[] {0, 1, draw, draw + 1, 15, 16}) {
                TinFen x = Check.of(THREE);
                x.rule(odds);
                Check.years(x, "bite b;");
                Check.fine("live", x, x.live(seed), 1);
                boolean found = draw < odds;
                lived("draw " + draw + ", odds " + odds, x, found ? 0 : 1, 0, found ? 1 : 0, 0, 0);
                Check.fine("FOUND", x, x.many(7), found ? 2 : 0);
                Check.fine("GONE", x, x.many(6), found ? 2 : 0);
            }
        }
        for (int draw = 0; draw < 16; draw++) {
            Check.due("a draw of " + draw, drawn[draw], true);
        }
    }

    private static void section4_whatCantBeIsMissed() {
        TinFen x = Check.of(THREE);
        x.rule(16);
        Check.years(x, "bite a;learn p t;pass a p;bite b;bite b;pass b p;lose q t;lose q t;pass a q;learn q t;pass a q;");
        Check.fine("MISSED are done, too", x, x.live(0), 11);
        // MISSED: a sound one, what is so, to himself, GONE, GONE, what is so, not TRUE
        lived("missed", x, 7, 1, 1, 7, 0);
        TinFen apart = Check.of("trait t worth 1;person p;person q is t;tin a of t on p;");
        Check.years(apart, "pass a q;");
        apart.live(0);
        lived("they do not MEET", apart, 1, 0, 0, 0, 0);
    }

    private static void section4_anyWithoutTins() {
        for (String text : new String[] {"", "person p;", "trait t worth 1;person p is t;person q is t;lane p q;"}) {
            TinFen x = Check.of(text);
            Check.years(x, "any;loop 3;any;end;");
            Check.fine("live", x, x.live(77), 5);
            lived("any without TINS", x, 4, 0, 0, 0, 0);
        }
    }

    /** By one TIN, by one PERSON the draw is 0, but it is made: the bite behind it shows that. */
    private static void section4_anyOfOneTin() {
        boolean[] seen = new boolean[2];
        for (int seed = 0; seed < 30; seed++) {
            TinFen x = Check.of("trait t worth 1;person p is t;person q is t;person r is t;lane p q;lane p r;lane q r;tin a of t on p;");
            Check.years(x, "any;");
            x.live(seed);
            Check.fine("to whom", x, x.tin(0, 1), next(next(seed)) / 8 % 3);
            TinFen one = Check.of("trait t worth 1;person p is t;tin a of t on p lead;");
            Check.years(one, "any;bite a;");
            one.live(seed);
            boolean found = next(next(next(seed))) / 8 % 16 < 8;
            seen[found ? 1 : 0] = true;
            lived("one of each", one, found ? 1 : 2, 0, found ? 1 : 0, 0, 0);
        }
        Check.due("some are FOUND, some are not", seen[0] && seen[1], true);
    }

    /** Both draws are made first, whatever is drawn: those behind an any that is MISSED show it. */
    private static void section4_anyMakesBothDraws() {
        for (int seed = 0; seed < 60; seed++) {
            TinFen x = Check.of(THREE);
            x.drop(0);
            x.drop(1);
            x.strike(0, 2, true);
            x.rule(16);
            Check.years(x, "any;any;any;");
            long s = seed;
            int holder = 2;
            int passes = 0;
            for (int i = 0; i < 3; i++) {
                s = next(s);
                long tin = s / 8 % 3;
                s = next(s);
                int person = (int) (s / 8 % 3);
                if (tin == 2 && person != holder) {
                    holder = person;
                    passes++;
                }
            }
            Check.fine("live", x, x.live(seed), 3);
            lived("any by seed " + seed, x, 3 - passes, passes, 0, 7 * passes, 0);
            Check.fine("who has it", x, x.tin(2, 1), holder);
        }
    }

    private static void section4_drawsAtTheEndsOfTheSeeds() {
        // seed 0: 10,891, then 58,804: by 8 rounded down 1,361 and 7,350: TIN b to PERSON p
        TinFen x = lives("any;", 0, 1);
        Check.fine("b on p", x, x.tin(1, 1), 0);
        Check.fine("a stays", x, x.tin(0, 4), 0);
        // seed 9,999: 30,112, then 17,003: by 8 rounded down 3,764 and 2,125: TIN a to PERSON q
        TinFen y = lives("any;", 9999, 1);
        Check.fine("a on q", y, y.tin(0, 1), 1);
        Check.fine("b stays", y, y.tin(1, 4), 0);
    }

    private static void section4_gotAtTheEnds() {
        TinFen x = Check.of("trait t worth 99;person p is t;person q is t;lane p q;tin a of t on p;");
        String tests = "when got p<0;stop;end;when got p>0;learn q t;end;when got p=0;stop;end;";
        Check.years(x, tests);
        Check.fine("p has 0: the third holds", x, x.live(0), 4);
        for (int i = 0; i < 101; i++) {
            x.pass(0, 1);
            x.pass(0, 0);
        }
        Check.fine("p has 9,999", x, x.person(0, 3), 9999);
        Check.years(x, "when got p>9999;stop;end;when got p<9999;stop;end;when got p=9999;stop;end;any;");
        Check.fine("the third holds", x, x.live(0), 4);
        x.pass(0, 1);
        Check.years(x, "when got p<9999;stop;end;when got p=9999;stop;end;when got p>9999;stop;end;any;");
        Check.fine("the third holds", x, x.live(0), 4);
    }

    private static void section4_onAndGone() {
        TinFen x = lives("when on a q;stop;end;when on a p;pass a q;end;when on a q;pass a r;end;", 0, 5);
        Check.fine("on r", x, x.tin(0, 1), 2);
        TinFen y = Check.of(THREE);
        y.drop(0);
        Check.years(y, "when on a p;stop;end;when gone b;stop;end;when gone a;bite a;end;");
        Check.fine("GONE: on nobody", y, y.live(0), 4);
        lived("a bite of what is GONE", y, 1, 0, 0, 0, 0);
    }

    private static void section4_loopAsOften() {
        lives("loop 1;any;end;", 0, 2);
        lives("loop 99;any;end;", 0, 100);
        lives("loop 2;loop 2;loop 2;any;end;end;end;", 0, 1 + 2 * (1 + 2 * (1 + 2)));
        lives("loop 3;end;any;", 0, 2);
        lives("loop 2;when gone a;any;end;any;end;", 0, 1 + 2 * 2);
        lives("loop 2;loop 3;any;end;end;loop 3;any;end;", 0, 1 + 2 * 4 + 4);
    }

    private static void section4_atMost300StepsAreDone() {
        TinFen x = lives("loop 99;any;any;any;end;any;any;", 0, 300);
        Check.fine("none is left", x, x.lived(4), 0);
        TinFen y = lives("loop 99;any;any;any;end;any;any;learn p t;", 0, 300);
        Check.fine("one is left", y, y.lived(4), 1);
        TinFen z = lives("loop 99;any;any;any;end;any;any;lose p t;", 0, 300);
        Check.fine("what is left is not done", z, z.person(0, 0), 1);
        TinFen w = lives("loop 99;loop 99;any;end;end;", 0, 300);
        Check.fine("left in a loop", w, w.lived(4), 1);
        TinFen v = lives("loop 99;any;any;any;end;any;loop 99;end;", 0, 300);
        Check.fine("an end is no STEP", v, v.lived(4), 0);
        TinFen u = lives("loop 99;any;any;any;end;any;when on a p;end;", 0, 300);
        Check.fine("a when is the last", u, u.lived(4), 0);
        TinFen t = lives("loop 99;any;any;any;end;any;any;when on a p;end;", 0, 300);
        Check.fine("a when is left", t, t.lived(4), 1);
        TinFen s = lives("loop 99;loop 3;end;loop 3;end;any;end;any;any;", 0, 300);
        Check.fine("loops count as one each time", s, s.lived(4), 0);
        Check.years(w, "any;");
        w.live(0);
        Check.fine("none is left in those that come next", w, w.lived(4), 0);
    }

    private static void section4_stopIsAStep() {
        TinFen x = lives("stop;", 0, 1);
        lived("stop", x, 0, 0, 0, 0, 0);
        TinFen y = lives("any;loop 9;stop;any;end;any;", 0, 3);
        Check.fine("none is left to be done", y, y.lived(4), 0);
        TinFen z = lives("loop 99;any;any;any;end;any;stop;", 0, 300);
        Check.fine("as the 300th", z, z.lived(4), 0);
        TinFen w = lives("loop 99;any;any;any;end;any;any;stop;", 0, 300);
        Check.fine("as the 301st", w, w.lived(4), 1);
    }

    // ---- promises 48 to 50

    private static void promise48_liveBySeeds0To9999() {
        for (int seed : new int[] {MIN, -1, 10000, 65536, MAX}) {
            Edges.refuses("live(" + seed + ")", Edges.RICH, 5, x -> x.live(seed));
            Edges.refuses("live(" + seed + ") without YEARS", Edges.ANN, 5, x -> x.live(seed));
        }
        for (int seed : new int[] {0, 1, 9998, 9999}) {
            lives("any;", seed, 1);
        }
    }

    private static void promise48_liveWithoutYears() {
        Edges.refuses("none at first", Edges.EMPTY, 8, x -> x.live(0));
        Edges.refuses("none behind a FEN", () -> {
            TinFen x = LIVED.make();
            x.fen(0);
            return x;
        }, 8, x -> x.live(0));
        Edges.refuses("YEARS that were refused are none", () -> {
            TinFen x = Check.ann();
            Check.years(x, "any;!");
            return x;
        }, 8, x -> x.live(0));
        TinFen x = LIVED.make();
        Check.fen(x, "!");
        Check.fine("a FEN that was refused leaves them", x, x.live(0), 7);
    }

    private static void promise48_emptyYearsAreThere() {
        TinFen x = LIVED.make();
        Check.fine("YEARS of no STEPS", x, x.years(0), 0);
        Check.fine("none were done", x, x.live(5), 0);
        lived("none", x, 0, 0, 0, 0, 0);
        Check.fine("mean", x, x.mean(0, 1));
    }

    private static void promise48_allIsAsItIsThen() {
        TinFen x = Check.of(THREE);
        Check.years(x, "pass a q;lose p t;");
        x.live(0);
        Check.fine("GOT", x, x.person(0, 3), 7);
        Check.fine("not TRUE", x, x.person(0, 0), 0);
        Check.fine("on q", x, x.tin(0, 1), 1);
        Check.fine("PASSES", x, x.many(5), 1);
        Check.fine("again", x, x.live(0), 2);
        lived("from there on", x, 2, 0, 0, 0, 0);
    }

    private static void promise49_livedOf0To4() {
        for (int what : new int[] {MIN, -1, 5, 6, MAX}) {
            Edges.refuses("lived(" + what + ")", Edges.RICH, 5, x -> x.lived(what));
            Edges.refuses("lived(" + what + "), none", Edges.EMPTY, 5, x -> x.lived(what));
        }
        for (int i = 0; i < 5; i++) {
            int what = i;
            Edges.refuses("there was none", Edges.EMPTY, 8, x -> x.lived(what));
            Edges.refuses("mean() is none", () -> {
                TinFen x = Check.of(THREE);
                Check.years(x, "any;");
                x.mean(0, 3);
                return x;
            }, 8, x -> x.lived(what));
        }
    }

    private static void promise49_ofLiveLatestWithStatus0() {
        TinFen x = Check.of(THREE);
        Check.years(x, "pass a q;pass a q;");
        x.live(0);
        lived("the latest", x, 1, 1, 0, 7, 0);
        x.live(-1);
        x.live(10000);
        x.mean(0, 20);
        x.pass(0, 2);
        Check.fen(x, "");
        x.live(0);
        lived("refused ones are none", x, 1, 1, 0, 7, 0);
        Check.years(x, "");
        x.live(0);
        lived("the latest", x, 0, 0, 0, 0, 0);
    }

    private static void promise49_onlyWhatWasInThem() {
        TinFen x = Check.of(THREE);
        x.rule(16);
        x.pass(0, 1);
        x.strike(0, 0, true);
        x.bite(2);
        Check.years(x, "pass a r;bite b;");
        x.live(0);
        lived("in them", x, 0, 1, 1, 7, 0);
        Check.fine("in all", x, x.many(5), 2);
        Check.fine("in all", x, x.many(7), 6);
    }

    private static void promise50_meanOf1To20Seeds() {
        for (int many : new int[] {MIN, -1, 0, 21, 22, MAX}) {
            Edges.denies("many " + many, Edges.RICH, 5, x -> x.mean(0, many));
            Edges.denies("many " + many + ", without YEARS", Edges.ANN, 5, x -> x.mean(0, many));
        }
        for (int seed : new int[] {MIN, -1, 10000, MAX}) {
            Edges.denies("seed " + seed, Edges.RICH, 5, x -> x.mean(seed, 1));
            Edges.denies("seed " + seed, Edges.RICH, 5, x -> x.mean(seed, 20));
        }
        int[][] last = {{9999, 2}, {9999, 20}, {9981, 20}, {9990, 11}};
        for (int[] l : last) {
            Edges.denies("the last above 9,999", Edges.RICH, 5, x -> x.mean(l[0], l[1]));
        }
        int[][] fine = {{0, 1}, {0, 20}, {9999, 1}, {9998, 2}, {9980, 20}, {9990, 10}};
        for (int[] f : fine) {
            TinFen x = Edges.RICH.make();
            Check.fine("mean", x, x.mean(f[0], f[1]));
        }
        Edges.denies("no YEARS", Edges.ANN, 8, x -> x.mean(9980, 20));
    }

    private static void promise50_meanOfWhatAllHaveGotAheadToo() {
        TinFen x = Check.of(THREE);
        x.pass(0, 1);
        Check.years(x, "pass a r;");
        Check.fraction("7 ahead, 7 in them", x, x.mean(0, 20), 14, 1);
        Check.years(x, "");
        Check.fraction("7 ahead", x, x.mean(9999, 1), 7, 1);
        Check.years(x, "any;");
        // by seed 0 b goes to p; by seed 1, that is 13,862, then 38,285, by 8 rounded down 1,732 and 4,785, a goes to p
        Check.fraction("7 in both", x, x.mean(0, 2), 14, 1);
    }

    /** Each seed begins with all as it is, not with what the one ahead left. */
    private static void promise50_allStaysAsItIs() {
        Edges.Maker maker = () -> {
            TinFen x = Check.of(THREE);
            Check.years(x, "loop 5;any;bite b;lose q t;end;");
            x.live(9);
            x.mark();
            return x;
        };
        for (int many = 1; many <= 20; many++) {
            long sum = 0;
            for (int i = 0; i < many; i++) {
                TinFen x = maker.make();
                x.live(100 + i);
                sum += x.person(0, 3) + x.person(1, 3) + x.person(2, 3);
            }
            TinFen x = maker.make();
            Check.fine("mean", x, x.mean(100, many));
            Check.due("mean of " + many, x.top() * many, sum * x.bottom());
            int seeds = many;
            Edges.leavesFen("mean", maker, y -> y.mean(100, seeds) ? 1 : 0);
        }
    }

    private static void promise50_aFractionWithoutACommonDivisor() {
        boolean broken = false;
        TinFen x = Check.of(THREE);
        Check.years(x, "any;");
        for (int many = 1; many <= 20; many++) {
            long sum = 0;
            for (int seed = 0; seed < many; seed++) {
                long s = next(seed);
                long tin = s / 8 % 2;
                sum += next(s) / 8 % 3 == tin ? 0 : 7;
            }
            long divisor = java.math.BigInteger.valueOf(sum).gcd(java.math.BigInteger.valueOf(many)).longValue();
            Check.fraction("mean of " + many, x, x.mean(0, many), sum / divisor, many / divisor);
            broken |= many / divisor > 1;
        }
        Check.due("some are no whole numbers", broken, true);
    }

    // ---- promises 51, 52

    private static void promise51_atMostThreeMarks() {
        TinFen x = new TinFen();
        for (int i = 1; i <= 3; i++) {
            Check.fine("how many there are", x, x.mark(), i);
        }
        Check.refused("a fourth", x, x.mark(), 7);
        Check.refused("a fourth", x, x.mark(), 7);
        Check.fine("back", x, x.back(), 2);
        Check.fine("one more again", x, x.mark(), 3);
        Check.refused("a fourth", x, x.mark(), 7);
        Edges.refuses("a fourth", Edges.FULL, 7, y -> y.mark());
    }

    private static void promise51_aMarkChangesNothingElse() {
        TinFen x = Edges.RICH.make();
        TinFen twin = Edges.RICH.make();
        Check.fine("mark", x, x.mark(), 3);
        Check.same("the FEN", Edges.fen(x), Edges.fen(twin));
        Check.due("top", x.top(), twin.top());
        Check.due("the tape", x.feed(0, 0, 0, 0, 0), 60);
        Check.fine("YEARS", x, x.live(1), twin.live(1));
    }

    private static void promise52_backWithoutAMark() {
        Edges.refuses("none", Edges.EMPTY, 8, x -> x.back());
        Edges.refuses("none", Edges.ANN, 8, x -> x.back());
        TinFen x = Edges.FULL.make();
        for (int i = 2; i >= 0; i--) {
            Check.fine("how many are left", x, x.back(), i);
        }
        Check.refused("none are left", x, x.back(), 8);
        Check.refused("none are left", x, x.back(), 8);
        Check.fine("nine TINS still", x, x.many(3), 9);
    }

    private static void promise52_eachMarkKeepsItsOwn() {
        TinFen x = Check.of(THREE);
        String[] kept = new String[3];
        for (int i = 0; i < 3; i++) {
            kept[i] = Edges.fen(x);
            x.mark();
            x.pass(0, (i + 1) % 3);
            x.price(0, 50 + i);
            x.rule(i);
        }
        for (int i = 2; i >= 0; i--) {
            Check.fine("back", x, x.back(), i);
            Check.same("as it was", Edges.fen(x), kept[i]);
        }
    }

    private static void promise52_allOfTheFenIsTakenBack() {
        Edges.Number[] deeds = {x -> x.pass(0, 1), x -> x.bite(1), x -> x.recite(0, 1) ? 1 : 0, x -> x.drop(0),
            x -> x.strike(0, 2, true), x -> x.teach(1, 0, false) ? 1 : 0, x -> x.lane(0, 1), x -> x.price(0, 99) ? 1 : 0,
            x -> x.rule(16) ? 1 : 0, x -> x.live(44), x -> x.fen(0), x -> x.years(0), x -> Check.fen(x, Check.ANN),
            x -> Check.years(x, "stop;"), x -> Check.fen(x, Edges.fullText())};
        Edges.Maker maker = () -> {
            TinFen x = Check.of(THREE);
            x.strike(0, 1, true);
            x.pass(0, 2);
            Check.years(x, "any;bite b;any;pass a p;learn p t;when on a q;any;end;");
            return x;
        };
        for (int i = 0; i < deeds.length; i++) {
            TinFen x = maker.make();
            TinFen twin = maker.make();
            x.mark();
            Check.due("deed " + i + " is done", deeds[i].of(x) >= 0 && x.status() == 0, true);
            Check.fine("back", x, x.back(), 0);
            Check.same("deed " + i + " is taken back", Edges.fen(x), Edges.fen(twin));
            Check.fine("the YEARS, too", x, x.live(44), twin.live(44));
            Check.same("deed " + i + ", lived", Edges.fen(x), Edges.fen(twin));
            Check.fine("the NAMES, too", x, Check.years(x, "pass b r;learn q t;"), 2);
        }
    }

    private static void promise52_yearsThatWereNotThereAreGone() {
        TinFen x = Check.of(THREE);
        x.mark();
        Check.years(x, "any;");
        x.live(0);
        x.back();
        Check.refused("no YEARS", x, x.live(0), 8);
        Check.refused("no YEARS", x, x.mean(0, 1), 8);
    }

    private static void promise52_whatIsNoPartOfTheFenStays() {
        TinFen x = Check.of(THREE);
        x.mark();
        Check.years(x, "pass a q;");
        x.live(0);
        x.share(1);
        x.tray(0, 0, 1);
        x.write(0, 0, 77);
        Check.years(x, "!");
        x.feed(0, 0, 0, 0, 0);
        x.back();
        Check.due("FRACTION", x.top(), 1);
        Check.due("FAULT", x.fault(0), 1);
        Check.fine("TRAY", x, x.read(0, 0), 77);
        Check.due("tape", x.feed(0, 0, 0, 0, 0), 40);
        lived("what live() told", x, 0, 1, 0, 7, 0);
    }

    private static void promise52_aMarkIsUsedOnce() {
        TinFen x = Check.of(THREE);
        x.mark();
        x.pass(0, 1);
        x.back();
        x.pass(0, 2);
        Check.refused("gone then", x, x.back(), 8);
        Check.fine("on r", x, x.tin(0, 1), 2);
        x.mark();
        x.drop(0);
        x.back();
        Check.fine("to the latest, not to the first", x, x.tin(0, 1), 2);
    }
}
