import java.lang.reflect.InvocationTargetException;
import java.lang.reflect.Method;
import java.util.ArrayList;
import java.util.Comparator;
import java.util.HashMap;
import java.util.List;
import java.util.Map;

/**
 * What the tests of boundaries share. Each test is a static method that is named after the promise, the section or
 * the heading of the document whose sentence it holds the class to.
 */
final class Edges {
    static final int[] ENDS = {Integer.MIN_VALUE, -1, Integer.MAX_VALUE};
    private static final String NAMES = "(promise\\d\\d|terms|section\\d)_\\w+";

    interface Maker {
        TinFen make();
    }

    interface Number {
        long of(TinFen x);
    }

    interface Yes {
        boolean of(TinFen x);
    }

    private interface Look {
        String at(TinFen x);
    }

    static final Maker EMPTY = TinFen::new;
    static final Maker ANN = Check::ann;
    static final Maker RICH = Edges::rich;
    static final Maker FULL = Edges::full;

    private static final Look[] ALL = {Edges::seen, Edges::tape, Edges::years, Edges::marks};
    private static final Look[] ALL_BUT_TAPE = {Edges::fen, Edges::trays, Edges::lived, Edges::years, Edges::marks};
    /** What is seen of objects as they were made, so that each is looked at just once. */
    private static final Map<Maker, Map<Look, String>> UNTOUCHED = new HashMap<>();

    private Edges() {
    }

    /** Runs all tests of a class, by their names, and ends with exit code 1 if one of them failed. */
    static void runAll(Class<?> tests) {
        List<Method> all = new ArrayList<>();
        for (Method m : tests.getDeclaredMethods()) {
            if (m.getName().matches(NAMES) && m.getParameterCount() == 0) {
                all.add(m);
            }
        }
        all.sort(Comparator.comparing(Method::getName));
        int failed = 0;
        for (Method m : all) {
            int before = Check.wrongSoFar();
            Check.nameTest(m.getName());
            run(m);
            if (Check.wrongSoFar() != before) {
                failed++;
                System.out.println("FAILED: " + m.getName());
            }
        }
        Check.nameTest(tests.getSimpleName());
        Check.due("there are tests", !all.isEmpty(), true);
        System.out.println(all.size() + " tests of boundaries, " + failed + " failed");
        Check.end();
    }

    private static void run(Method test) {
        try {
            test.setAccessible(true);
            test.invoke(null);
        } catch (InvocationTargetException e) {
            Check.same("what was thrown", String.valueOf(e.getCause()), "nothing");
        } catch (IllegalAccessException e) {
            Check.same("what kept the test from running", e.toString(), "nothing");
        }
    }

    // ---- refused calls

    /** The call answers NONE with this STATUS, and leaves all else as it is on a twin without that call. */
    static void refuses(String what, Maker maker, int status, Number call) {
        TinFen x = maker.make();
        Check.refused(what, x, call.of(x), status);
        leavesAll(what, maker, call);
    }

    /** Likewise a call that answers true or false. */
    static void denies(String what, Maker maker, int status, Yes call) {
        TinFen x = maker.make();
        Check.refused(what, x, call.of(x), status);
        leavesAll(what, maker, y -> call.of(y) ? 1 : 0);
    }

    /** A question that is answered changes nothing, too. */
    static void leavesAll(String what, Maker maker, Number call) {
        leaves(what, maker, call, ALL);
    }

    /** As leavesAll(), but for the tape and what fault() tells: fen() and years() with STATUS 10. */
    static void leavesFen(String what, Maker maker, Number call) {
        leaves(what, maker, call, ALL_BUT_TAPE);
    }

    /** Each look takes an object of its own, since looking at the tape and the MARKS uses them up. */
    private static void leaves(String what, Maker maker, Number call, Look[] looks) {
        for (Look look : looks) {
            TinFen x = maker.make();
            call.of(x);
            Check.same(what + ", all behind it", look.at(x), untouched(maker, look));
        }
    }

    private static String untouched(Maker maker, Look look) {
        return UNTOUCHED.computeIfAbsent(maker, m -> new HashMap<>()).computeIfAbsent(look, l -> l.at(maker.make()));
    }

    // ---- all that can be seen of an object

    private static String seen(TinFen x) {
        return x.top() + "/" + x.bottom() + " fault " + x.fault(0) + " " + x.fault(1) + lived(x) + fen(x) + trays(x);
    }

    private static String lived(TinFen x) {
        StringBuilder all = new StringBuilder(" lived");
        for (int what = 0; what < 5; what++) {
            all.append(' ').append(x.lived(what)).append('s').append(x.status());
        }
        return all.toString();
    }

    static String fen(TinFen x) {
        StringBuilder all = new StringBuilder(" many");
        for (int what = 0; what < 10; what++) {
            all.append(' ').append(x.many(what));
        }
        int traits = x.many(0);
        int people = x.many(1);
        int tins = x.many(3);
        for (int i = 0; i < traits; i++) {
            all.append(" worth ").append(x.worth(i));
        }
        for (int i = 0; i < people; i++) {
            all.append(" person");
            for (int what = 0; what < 5; what++) {
                all.append(' ').append(x.person(i, what));
            }
        }
        for (int i = 0; i < tins; i++) {
            all.append(" tin");
            for (int what = 0; what < 5; what++) {
                all.append(' ').append(x.tin(i, what));
            }
        }
        return all.toString();
    }

    private static String trays(TinFen x) {
        StringBuilder all = new StringBuilder();
        for (int tray = 0; tray < 4; tray++) {
            all.append(" tray");
            long v = x.read(tray, 0);
            for (int i = 0; i < 60 && x.status() == 0; i++) {
                all.append(' ').append(v);
                v = x.read(tray, i + 1);
            }
            all.append('s').append(x.status());
            // the sort shows by what is cut
            x.write(tray, 0, 0x1122334455667788L);
            all.append(' ').append(x.read(tray, 0));
        }
        return all.toString();
    }

    private static String tape(TinFen x) {
        int fed = x.feed(0x20202020, 0x20202020, 0x20202020, 0x20202020, 0x20202020);
        int taken = x.fen(fed < 0 ? 900 : fed);
        return "tape " + fed + " fen " + taken + "s" + x.status() + " " + x.fault(0) + " " + x.fault(1) + fen(x);
    }

    private static String years(TinFen x) {
        int steps = x.live(1234);
        return "live " + steps + "s" + x.status() + lived(x) + fen(x);
    }

    private static String marks(TinFen x) {
        StringBuilder all = new StringBuilder("marks");
        for (int i = 0; i < 4; i++) {
            int left = x.back();
            all.append(" back ").append(left).append('s').append(x.status());
            all.append(" live ").append(x.live(4321)).append('s').append(x.status()).append(fen(x));
        }
        return all.toString();
    }

    // ---- objects in which something is of everything

    /**
     * ann, with two MARKS, YEARS that were lived, TRAYS but the last (8 bits by 4, 64 bits by 18, 8 bits by 6), a
     * FRACTION of 1 by 4, a FAULT of kind 4 at 5, forty bytes on the tape; TIN 0 was thrown away, TIN 3 is FOUND,
     * b is ON ann, c ON ben, TIN 4, of wit and LEAD, was struck and is ON cyd.
     */
    private static TinFen rich() {
        TinFen x = Check.ann();
        x.mark();
        x.pass(2, 1);
        x.strike(2, 0, true);
        Check.years(x, "pass b ben;any;when gone d;bite c;end;loop 3;any;end;");
        x.mark();
        x.live(5);
        x.recite(1, 0);
        x.recite(2, 1);
        x.recite(4, 2);
        x.drop(0);
        x.bite(3);
        x.tray(0, 0, 4);
        x.tray(1, 3, 18);
        x.tray(2, 0, 6);
        for (int i = 0; i < 4; i++) {
            x.write(0, i, 21 + i);
            x.write(1, 2 * i, i);
            x.write(1, 2 * i + 1, 1);
        }
        x.price(0, 7);
        x.bites(1, 1);
        Check.fen(x, "odds 77;");
        Check.feedText(x, "odds 5;trait zig worth 3;person zag;    ");
        return x;
    }

    /** Nothing more has room: three MARKS, 900 bytes on the tape, six TRAITS, seven PEOPLE, twelve LANES, nine TINS. */
    private static TinFen full() {
        TinFen x = Check.of(fullText());
        Check.years(x, "loop 30;any;end;");
        for (int i = 0; i < 3; i++) {
            x.mark();
            x.live(i);
        }
        for (int i = 0; i < 45; i++) {
            x.feed(0x20202020, 0x20202020, 0x20202020, 0x20202020, 0x20202020);
        }
        return x;
    }

    /** The WORD, whole or cut, with which a text ends, or "". */
    static String lastWord(String text) {
        int at = text.length();
        while (at > 0 && text.charAt(at - 1) >= 'a' && text.charAt(at - 1) <= 'z') {
            at--;
        }
        return text.substring(at);
    }

    /** Six TRAITS a to f, seven PEOPLE g to m in a ring with short cuts, all TRUE of all; a TIN n to v on each one. */
    static String fullText() {
        StringBuilder text = new StringBuilder();
        for (char c = 'a'; c <= 'f'; c++) {
            text.append("trait ").append(c).append(" worth ").append(c - 'a' + 1).append(';');
        }
        for (char c = 'g'; c <= 'm'; c++) {
            text.append("person ").append(c).append(" is a b c d e f;");
        }
        for (int i = 0; i < 12; i++) {
            text.append("lane ").append((char) ('g' + i % 7)).append(' ').append((char) ('g' + (i + 1 + i / 7) % 7)).append(';');
        }
        for (int i = 0; i < 9; i++) {
            text.append("tin ").append((char) ('n' + i)).append(" of ").append((char) ('a' + i % 6)).append(" on ");
            text.append((char) ('g' + i % 7)).append(i % 2 == 0 ? " lead;" : ";");
        }
        return text.toString();
    }
}
