import java.lang.reflect.InvocationTargetException;
import java.lang.reflect.Method;
import java.lang.reflect.Modifier;
import java.util.ArrayList;
import java.util.HashMap;
import java.util.List;
import java.util.Map;
import java.util.Random;

/**
 * Random runs of calls, as long as an object may be used: each call is made on a TinFen and on the second program
 * (Second), which must answer alike, with the same STATUS.
 */
public final class WholeRunsTest {
    private static final int MOST_CALLS = 512;
    /** What the last look at all of an object takes. */
    private static final int LAST_LOOK = 150;
    private static final int[] WILD = {Integer.MIN_VALUE, -1000, -2, -1, 0, 1, 2, 3, 4, 5, 6, 7, 8, 9, 10, 15, 16, 17, 20, 21, 31,
        32, 60, 61, 63, 64, 99, 100, 300, 301, 511, 512, 900, 901, 9980, 9981, 9999, 10000, 65536, 1 << 30, Integer.MAX_VALUE};

    /**
     * What the arguments of a call are: t TRAY, s sort, l length of a TRAY, c place, v number for a TRAY, q TRAIT, p
     * PERSON, i TIN, h set of TINS, b true or false, 0 to 9 a number from 0 to one above it, d seed, g any int.
     */
    private static final String[] CALLS = {"status", "top", "bottom", "tray tsl", "write tcv", "read tc", "pour tctc7",
        "feed ggggg", "fen 9", "years 9", "fault 2", "many 9", "worth q", "person p4", "tin i4", "copyGot t", "pass ip",
        "bite i", "recite ip", "drop i", "strike qpb", "teach pqb", "lane pp", "price qw", "rule o", "way ip", "wayAt ip3",
        "reach i", "next i", "round i", "roundAt i5", "most h", "givings h", "given hi", "cover", "coverSet", "blamed",
        "blamedSet", "wheels 7", "whose t4", "sure t4", "ask t4", "game pp3", "moveOf pp31", "bites p9", "share p", "live d",
        "lived 4", "mean dm", "mark", "back"};

    private static final Map<String, Method> FACE = new HashMap<>();

    private final Random dice;
    private final RandomTexts texts;
    private final TinFen x = new TinFen();
    private final Second y = new Second();
    private final StringBuilder log = new StringBuilder();
    private int made = 0;
    private boolean alike = true;

    private WholeRunsTest(long seed) {
        dice = new Random(seed);
        texts = new RandomTexts(dice);
    }

    public static void main(String[] args) {
        for (Method m : TinFen.class.getDeclaredMethods()) {
            if (Modifier.isPublic(m.getModifiers())) {
                FACE.put(m.getName(), m);
            }
        }
        Check.due("each call is made", CALLS.length, FACE.size());
        long from = args.length > 0 ? Long.parseLong(args[0]) : 0;
        long many = args.length > 1 ? Long.parseLong(args[1]) : 1500;
        // a run that is not alike is told with all its calls, so few are enough
        for (long seed = from; seed < from + many && Check.wrongSoFar() < 3; seed++) {
            new WholeRunsTest(seed).run();
        }
        Check.end();
    }

    private void run() {
        // some runs read one text after the other, some stay long with one
        int texted = 1 + dice.nextInt(60);
        while (alike && made < MOST_CALLS - LAST_LOOK) {
            if (made == 0 || dice.nextInt(texted) == 0) {
                feedSome();
            } else if (dice.nextInt(25) == 0) {
                laySeen();
            } else if (dice.nextInt(12) == 0) {
                passSome();
            } else {
                makeAny();
            }
        }
        if (alike) {
            lookAtAll();
        }
        if (!alike) {
            System.out.println(log);
        }
    }

    // ---- calls

    private void makeAny() {
        String[] call = CALLS[dice.nextInt(CALLS.length)].split(" ");
        String kinds = call.length < 2 ? "" : call[1];
        long[] a = new long[kinds.length()];
        for (int i = 0; i < a.length; i++) {
            a[i] = argument(kinds.charAt(i));
        }
        make(call[0], a);
    }

    private long make(String name, long... a) {
        if (made >= MOST_CALLS || !alike) {
            return 0;
        }
        made++;
        long got = answer(name, a);
        long want = y.call(name, a);
        StringBuilder call = new StringBuilder(name).append('(');
        for (int i = 0; i < a.length; i++) {
            call.append(i == 0 ? "" : ", ").append(a[i]);
        }
        call.append(')');
        log.append(call).append(" = ").append(want).append('\n');
        Check.due(call.toString(), got, want);
        alike = got == want;
        if (alike && made < MOST_CALLS) {
            made++;
            Check.due(call + ", status", x.status(), y.call("status"));
            alike = x.status() == y.call("status");
        }
        return want;
    }

    private long answer(String name, long[] a) {
        Method m = FACE.get(name);
        Object[] given = new Object[a.length];
        for (int i = 0; i < a.length; i++) {
            Class<?> type = m.getParameterTypes()[i];
            given[i] = type == long.class ? (Object) a[i] : type == boolean.class ? (Object) (a[i] == 1) : (Object) (int) a[i];
        }
        try {
            Object got = m.invoke(x, given);
            return got instanceof Boolean yes ? yes ? 1 : 0 : ((Number) got).longValue();
        } catch (InvocationTargetException | IllegalAccessException e) {
            throw new IllegalStateException(log + name, e);
        }
    }

    private int below(int size) {
        int luck = dice.nextInt(40);
        if (luck == 0) {
            return wild();
        }
        return luck == 1 || size == 0 ? size : luck == 2 ? -1 : dice.nextInt(size);
    }

    private int wild() {
        return dice.nextInt(6) == 0 ? dice.nextInt() : WILD[dice.nextInt(WILD.length)];
    }

    private long argument(char kind) {
        SecondFen f = y.now();
        switch (kind) {
            case 't':
            case 's':
                return below(4);
            case 'l':
                return below(dice.nextInt(4) == 0 ? 61 : 12);
            case 'c':
                return below(10);
            case 'v':
                return dice.nextBoolean() ? dice.nextLong() >> dice.nextInt(64) : dice.nextInt(8);
            case 'q':
                return below(f.traits.size());
            case 'p':
                return below(f.people.size());
            case 'i':
                return below(f.tins.size());
            case 'h':
                return dice.nextInt(3) == 0 ? below(1 << f.tins.size()) : setOfWorn();
            case 'b':
                return dice.nextInt(2);
            case 'w':
                return below(100);
            case 'o':
                return below(17);
            case 'd':
                return below(10000);
            case 'm':
                return below(21);
            case 'g':
                return dice.nextInt();
            default:
                return below(kind - '0' + 1);
        }
    }

    /** A set without what is GONE, since those with it tell little. */
    private int setOfWorn() {
        int set = 0;
        for (int i = 0; i < y.now().tins.size(); i++) {
            set |= y.now().tins.get(i).on != null && dice.nextInt(3) > 0 ? 1 << i : 0;
        }
        return set;
    }

    // ---- texts, TRAYS

    private void feedSome() {
        boolean isFen = made == 0 || dice.nextInt(3) == 0;
        String text = isFen ? texts.fen() : texts.years(y.now());
        List<Integer> bytes = new ArrayList<>();
        for (char c : text.toCharArray()) {
            bytes.add((int) c);
        }
        while (bytes.size() % 20 != 0) {
            bytes.add(dice.nextInt(4) == 0 ? dice.nextInt(256) : 32);
        }
        if (y.fed() > 0) {
            // whatever stood on the tape, it is empty then
            make("years", Math.min(y.fed(), 300));
        }
        for (int at = 0; at < bytes.size() && at < 900; at += 20) {
            long[] five = new long[5];
            for (int i = 0; i < 20; i++) {
                five[i / 4] = (int) (five[i / 4] << 8 | bytes.get(at + i));
            }
            make("feed", five);
        }
        int luck = dice.nextInt(60);
        make(isFen ? "fen" : "years", luck == 0 ? wild() : luck == 1 ? dice.nextInt(text.length() + 1) : text.length());
        make("fault", 0);
        make("fault", 1);
        if (!isFen && dice.nextBoolean()) {
            liveSome();
        }
    }

    private void liveSome() {
        make("mean", dice.nextInt(9980), 1 + dice.nextInt(4));
        make("top");
        make("bottom");
        make("live", dice.nextInt(10000));
        for (int what = 0; what < 5; what++) {
            make("lived", what);
        }
    }

    /** A PASS that can be, if there is one: those by chance mostly can't. */
    private void passSome() {
        for (int i = 0; i < y.now().tins.size(); i++) {
            int tin = dice.nextInt(y.now().tins.size());
            for (int person = 0; person < y.now().people.size(); person++) {
                if (y.now().canPass(tin, person) && dice.nextBoolean()) {
                    make("pass", tin, person);
                    return;
                }
            }
        }
    }

    /** A TRAY of twos as they may be seen of a set of TRAITS, or nearly so. */
    private void laySeen() {
        SecondFen f = y.now();
        int tray = dice.nextInt(4);
        int twos = dice.nextInt(5);
        int set = dice.nextInt(64);
        make("tray", tray, dice.nextInt(4), 2 * twos + dice.nextInt(2));
        for (int i = 0; i < twos; i++) {
            int person = below(f.people.size());
            int number = 0;
            for (int k = 0; k < f.traits.size() && person >= 0 && person < f.people.size(); k++) {
                number += (set >> k & 1) != 0 && f.people.get(person).truths.contains(k) ? 1 : 0;
            }
            make("write", tray, 2 * i, person);
            make("write", tray, 2 * i + 1, dice.nextInt(12) == 0 ? below(7) : number);
        }
        for (String name : new String[] {"whose", "sure", "ask"}) {
            make(name, tray, twos == 0 ? 0 : dice.nextInt(twos + 1));
        }
    }

    private void lookAtAll() {
        make("top");
        make("bottom");
        for (int i = 0; i < 10; i++) {
            make("many", i);
        }
        SecondFen f = y.now();
        for (int i = 0; i < f.people.size(); i++) {
            for (int what = 0; what < 4; what++) {
                make("person", i, what);
            }
        }
        for (int i = 0; i < f.tins.size(); i++) {
            make("tin", i, 1);
            make("tin", i, 3);
            make("tin", i, 4);
        }
        make("back");
        make("live", dice.nextInt(10000));
        make("many", 5);
    }
}
