import java.util.ArrayList;
import java.util.List;
import java.util.Random;
import java.util.Set;
import java.util.regex.Matcher;
import java.util.regex.Pattern;

/**
 * Random texts of FENS and YEARS, whole or broken, read and lived by the class and by a second reader that is written
 * here from the document alone: the FAULTS by kind and place, and all that became of the FEN, must be the same.
 */
public final class TextsBruteTest {
    private static final Random DICE = new Random(52);
    private static final Set<String> WORDS = Set.of("odds", "trait", "worth", "person", "is", "lane", "tin", "of", "on", "lead",
        "pass", "bite", "learn", "lose", "any", "when", "got", "gone", "loop", "end", "stop");

    /** What a text can't be read for. */
    private static final class Fault extends RuntimeException {
        private static final long serialVersionUID = 1;
        final int kind;
        final int place;

        Fault(int kind, int place) {
            super(null, null, false, false);
            this.kind = kind;
            this.place = place;
        }
    }

    /** The TOKENS of a text: "" is its end, null what begins no TOKEN. */
    private static final class Reader {
        private static final Pattern TOKEN = Pattern.compile("\\G[ \\n]*+(?:([a-z]+|[0-9]+|[;<>=])|(.)|$)", Pattern.DOTALL);
        final List<String> tokens = new ArrayList<>();
        final List<Integer> places = new ArrayList<>();
        int at = 0;

        Reader(String text) {
            Matcher m = TOKEN.matcher(text);
            boolean end = false;
            while (!end && m.find()) {
                String token = m.group(1);
                end = token == null && m.group(2) == null;
                boolean tooLong = token != null && token.matches("[0-9]{5,}");
                tokens.add(end ? "" : tooLong ? null : token);
                places.add(end ? text.length() : token != null ? m.start(1) : m.start(2));
            }
        }

        String look() {
            return tokens.get(at);
        }

        Fault fault(int kind) {
            return new Fault(look() == null ? 1 : kind, places.get(at));
        }

        boolean is(String word) {
            return word.equals(look());
        }

        void take(String word) {
            if (!is(word)) {
                throw fault(2);
            }
            at++;
        }

        boolean isName() {
            return look() != null && look().matches("[a-z]{1,8}") && !WORDS.contains(look());
        }

        String name() {
            if (!isName()) {
                throw fault(2);
            }
            return look();
        }

        int known(List<String> names) {
            int which = names.indexOf(name());
            if (which < 0) {
                throw fault(3);
            }
            return which;
        }

        int takeKnown(List<String> names) {
            int which = known(names);
            at++;
            return which;
        }

        int takeNumber(int least, int most) {
            if (look() == null || !look().matches("[0-9]+")) {
                throw fault(2);
            }
            int v = Integer.parseInt(look());
            if (v < least || v > most) {
                throw fault(4);
            }
            at++;
            return v;
        }
    }

    private static final class Tin {
        int trait;
        int on;
        boolean lead;
        boolean found;
        int held;
        int passed;
    }

    private static final class Person {
        int truths;
        int meets;
        int got;
    }

    private static final class Step {
        String word;
        int first;
        int second;
        List<Step> body;
    }

    /** A FEN with all that became of it. */
    private static final class Model {
        int odds = 8;
        int lanes;
        int passes;
        final List<String> traitNames = new ArrayList<>();
        final List<Integer> worth = new ArrayList<>();
        final List<String> personNames = new ArrayList<>();
        final List<Person> people = new ArrayList<>();
        final List<String> tinNames = new ArrayList<>();
        final List<Tin> tins = new ArrayList<>();

        static Model read(String text) {
            Model f = new Model();
            Reader r = new Reader(text);
            boolean told = false;
            while (!r.is("")) {
                if (r.is("odds")) {
                    if (told) {
                        throw r.fault(5);
                    }
                    told = true;
                    r.at++;
                    f.odds = r.takeNumber(0, 16);
                } else if (r.is("trait")) {
                    f.readTrait(r);
                } else if (r.is("person")) {
                    f.readPerson(r);
                } else if (r.is("lane")) {
                    f.readLane(r);
                } else {
                    f.readTin(r);
                }
                r.take(";");
            }
            return f;
        }

        private void begin(Reader r, String word, int many, int most) {
            if (r.is(word) && many >= most) {
                throw r.fault(6);
            }
            r.take(word);
        }

        private String newName(Reader r) {
            String name = r.name();
            if (traitNames.contains(name) || personNames.contains(name) || tinNames.contains(name)) {
                throw r.fault(3);
            }
            r.at++;
            return name;
        }

        private void readTrait(Reader r) {
            begin(r, "trait", worth.size(), 6);
            String name = newName(r);
            r.take("worth");
            worth.add(r.takeNumber(0, 99));
            traitNames.add(name);
        }

        private void readPerson(Reader r) {
            begin(r, "person", people.size(), 7);
            String name = newName(r);
            Person p = new Person();
            if (r.is("is")) {
                r.at++;
                while (r.isName()) {
                    int trait = r.known(traitNames);
                    if ((p.truths >> trait & 1) != 0) {
                        throw r.fault(5);
                    }
                    p.truths |= 1 << trait;
                    r.at++;
                }
            }
            people.add(p);
            personNames.add(name);
        }

        private void readLane(Reader r) {
            begin(r, "lane", lanes, 12);
            int one = r.takeKnown(personNames);
            int other = r.known(personNames);
            if (one == other) {
                throw r.fault(5);
            }
            r.at++;
            lanes++;
            people.get(one).meets |= 1 << other;
            people.get(other).meets |= 1 << one;
        }

        private void readTin(Reader r) {
            begin(r, "tin", tins.size(), 9);
            Tin t = new Tin();
            String name = newName(r);
            r.take("of");
            t.trait = r.takeKnown(traitNames);
            r.take("on");
            t.on = r.takeKnown(personNames);
            t.lead = r.is("lead");
            if (t.lead) {
                r.at++;
            }
            t.held = 1 << t.on;
            tins.add(t);
            tinNames.add(name);
        }

        private int steps;

        List<Step> readYears(String text) {
            Reader r = new Reader(text);
            steps = 0;
            List<Step> all = readSteps(r, 0);
            if (!r.is("")) {
                throw r.fault(2);
            }
            return all;
        }

        /** Up to an end, or the end of the text. */
        private List<Step> readSteps(Reader r, int depth) {
            List<Step> all = new ArrayList<>();
            while (!r.is("") && !r.is("end")) {
                all.add(readStep(r, depth));
            }
            return all;
        }

        private Step readStep(Reader r, int depth) {
            Step s = new Step();
            s.word = r.look();
            if (s.word == null || !List.of("pass", "bite", "learn", "lose", "any", "when", "loop", "stop").contains(s.word)) {
                throw r.fault(2);
            }
            if (++steps > 30) {
                throw r.fault(6);
            }
            boolean block = s.word.equals("when") || s.word.equals("loop");
            if (block && depth == 3) {
                throw r.fault(7);
            }
            r.at++;
            readArguments(r, s);
            r.take(";");
            if (block) {
                s.body = readSteps(r, depth + 1);
                r.take("end");
                r.take(";");
            }
            return s;
        }

        private void readArguments(Reader r, Step s) {
            if (s.word.equals("when")) {
                s.word = r.look();
                if (!r.is("on") && !r.is("got") && !r.is("gone")) {
                    throw r.fault(2);
                }
                r.at++;
            }
            switch (s.word) {
                case "pass":
                case "on":
                    s.first = r.takeKnown(tinNames);
                    s.second = r.takeKnown(personNames);
                    break;
                case "bite":
                case "gone":
                    s.first = r.takeKnown(tinNames);
                    break;
                case "learn":
                case "lose":
                    s.first = r.takeKnown(personNames);
                    s.second = r.takeKnown(traitNames);
                    break;
                case "got":
                    s.first = r.takeKnown(personNames);
                    if (!r.is("<") && !r.is(">") && !r.is("=")) {
                        throw r.fault(2);
                    }
                    s.word = r.look();
                    r.at++;
                    s.second = r.takeNumber(0, 9999);
                    break;
                case "loop":
                    s.first = r.takeNumber(1, 99);
                    break;
                default:
                    break;
            }
        }

        // ---- LIVED

        int done;
        int missed;
        int livedPasses;
        int foundMany;
        int gained;
        boolean left;
        private long drawn;

        void live(List<Step> years, int seed) {
            drawn = seed;
            done = 0;
            missed = 0;
            livedPasses = 0;
            foundMany = 0;
            gained = 0;
            left = false;
            doAll(years);
        }

        /** False if nothing more is done. */
        private boolean doAll(List<Step> all) {
            for (Step s : all) {
                if (done == 300) {
                    left = true;
                    return false;
                }
                done++;
                if (!doOne(s)) {
                    return false;
                }
            }
            return true;
        }

        private boolean doOne(Step s) {
            switch (s.word) {
                case "pass":
                    doPass(s.first, s.second);
                    return true;
                case "bite":
                    doBite(tins.get(s.first));
                    return true;
                case "learn":
                case "lose":
                    doTurn(people.get(s.first), 1 << s.second, s.word.equals("learn"));
                    return true;
                case "any":
                    doAny();
                    return true;
                case "stop":
                    return false;
                case "loop":
                    for (int i = 0; i < s.first; i++) {
                        if (!doAll(s.body)) {
                            return false;
                        }
                    }
                    return true;
                default:
                    return !holds(s) || doAll(s.body);
            }
        }

        private boolean holds(Step s) {
            switch (s.word) {
                case "on":
                    return tins.get(s.first).on == s.second;
                case "gone":
                    return tins.get(s.first).on < 0;
                case "<":
                    return people.get(s.first).got < s.second;
                case ">":
                    return people.get(s.first).got > s.second;
                default:
                    return people.get(s.first).got == s.second;
            }
        }

        private int draw(int n) {
            drawn = (drawn * 2971 + 10891) % 65536;
            return (int) (drawn / 8 % n);
        }

        private void doPass(int tin, int to) {
            Tin t = tins.get(tin);
            boolean can = t.on >= 0 && (people.get(t.on).meets >> to & 1) != 0 && (people.get(to).truths >> t.trait & 1) != 0;
            if (!can) {
                missed++;
                return;
            }
            people.get(t.on).got += worth.get(t.trait);
            gained += worth.get(t.trait);
            livedPasses++;
            passes++;
            t.passed++;
            t.on = to;
            t.held |= 1 << to;
        }

        private void doBite(Tin t) {
            if (t.on < 0 || !t.lead || draw(16) >= odds) {
                missed++;
                return;
            }
            t.on = -1;
            t.found = true;
            foundMany++;
        }

        private void doTurn(Person p, int bit, boolean is) {
            if ((p.truths & bit) != 0 == is) {
                missed++;
            } else {
                p.truths ^= bit;
            }
        }

        private void doAny() {
            if (tins.isEmpty()) {
                missed++;
                return;
            }
            int tin = draw(tins.size());
            doPass(tin, draw(people.size()));
        }

        // ---- as Edges.fen() tells it

        String told() {
            int[] sets = new int[4];
            int all = 0;
            StringBuilder rest = new StringBuilder();
            for (int i = 0; i < worth.size(); i++) {
                rest.append(" worth ").append(worth.get(i));
            }
            for (int i = 0; i < people.size(); i++) {
                Person p = people.get(i);
                int on = 0;
                int sum = 0;
                for (int k = 0; k < tins.size(); k++) {
                    on |= tins.get(k).on == i ? 1 << k : 0;
                    sum += tins.get(k).on == i ? worth.get(tins.get(k).trait) : 0;
                }
                all += sum;
                rest.append(" person ").append(p.truths).append(' ').append(p.meets).append(' ').append(on).append(' ');
                rest.append(p.got).append(' ').append(sum);
            }
            for (int k = 0; k < tins.size(); k++) {
                Tin t = tins.get(k);
                sets[0] |= t.on < 0 ? 1 << k : 0;
                sets[1] |= t.found ? 1 << k : 0;
                sets[2] |= t.lead ? 1 << k : 0;
                rest.append(" tin ").append(t.trait).append(' ').append(t.on).append(' ').append(t.lead ? 1 : 0).append(' ');
                rest.append(t.held).append(' ').append(t.passed);
            }
            return " many " + worth.size() + " " + people.size() + " " + lanes + " " + tins.size() + " " + odds + " " + passes + " "
                + sets[0] + " " + sets[1] + " " + sets[2] + " " + all + rest;
        }
    }

    // ---- random texts

    private static String name(char kind, int many) {
        return kind + String.valueOf((char) ('a' + DICE.nextInt(Math.max(many, 1))));
    }

    /** A NUMBER of these, or once in a while one that can't be. */
    private static int number(int least, int most) {
        boolean can = DICE.nextInt(60) > 0;
        return can ? least + DICE.nextInt(most - least + 1) : DICE.nextInt(10000);
    }

    private static String fenText() {
        int traits = 1 + DICE.nextInt(DICE.nextInt(8) == 0 ? 7 : 5);
        int people = 2 + DICE.nextInt(DICE.nextInt(8) == 0 ? 7 : 5);
        int tins = DICE.nextInt(DICE.nextInt(8) == 0 ? 11 : 9);
        StringBuilder text = new StringBuilder(DICE.nextBoolean() ? "odds " + number(0, 16) + " ; " : "");
        for (int i = 0; i < traits; i++) {
            text.append("trait t").append((char) ('a' + i)).append(" worth ").append(number(0, 99)).append(" ; ");
        }
        for (int i = 0; i < people; i++) {
            boolean is = DICE.nextInt(9) > 0;
            text.append("person p").append((char) ('a' + i)).append(is ? " is" : "");
            for (int k = 0; k < traits && is; k++) {
                text.append(DICE.nextInt(4) > 0 ? " t" + (char) ('a' + k) : "");
            }
            text.append(" ; ");
        }
        for (int i = DICE.nextInt(14); i > 0; i--) {
            int one = DICE.nextInt(people);
            int other = (one + 1 + DICE.nextInt(people - 1)) % people;
            text.append("lane p").append((char) ('a' + one)).append(" p").append((char) ('a' + other)).append(" ; ");
        }
        for (int i = 0; i < tins; i++) {
            text.append("tin n").append((char) ('a' + i)).append(" of ").append(name('t', traits)).append(" on ");
            text.append(name('p', people)).append(DICE.nextBoolean() ? " lead" : "").append(" ; ");
        }
        return text.toString();
    }

    private static String yearsText(Model f) {
        // as many short ones as leave room for a 31st
        StringBuilder text = new StringBuilder(DICE.nextInt(6) == 0 ? "any ; ".repeat(18 + DICE.nextInt(14)) : "");
        int open = 0;
        int most = DICE.nextInt(DICE.nextInt(5) == 0 ? 33 : 14);
        for (int i = 0; i < most; i++) {
            String tin = name('n', f.tins.size());
            String person = name('p', f.people.size());
            String trait = name('t', f.worth.size());
            String[] steps = {"pass " + tin + " " + person, "bite " + tin, "learn " + person + " " + trait, "lose " + person + " " + trait,
                "any", "any", "any", "when on " + tin + " " + person, "when got " + person + " " + "<>=".charAt(DICE.nextInt(3)) + " "
                    + DICE.nextInt(60), "when gone " + tin, "loop " + number(1, 99), "loop " + number(1, 4), "end", "stop"};
            String step = steps[DICE.nextInt(DICE.nextInt(6) == 0 ? steps.length : steps.length - 1)];
            boolean block = step.startsWith("when") || step.startsWith("loop");
            if (step.equals("end") && open == 0 || block && open == 3 && DICE.nextInt(20) > 0) {
                continue;
            }
            open += block ? 1 : step.equals("end") ? -1 : 0;
            text.append(step).append(" ; ");
        }
        return text + "end ; ".repeat(open);
    }

    private static final String[] PIECES = {"odds", "trait", "person", "is", "lane", "tin", "of", "on", "lead", "worth", "pass", "bite",
        "any", "when", "got", "gone", "loop", "end", "stop", ";", ";", "<", ">", "=", "ta", "pa", "na", "pb", "zz", "abcdefgh", "abcdefghi",
        "0", "1", "16", "17", "99", "100", "9999", "12345", "!", "A", "\t", "\n", "" + (char) 200};

    /** Now and then a TOKEN is left out, doubled, put in place of another one or between two; blanks are left out. */
    private static String broken(String text) {
        List<String> tokens = new ArrayList<>(List.of(text.split(" ")));
        for (int i = DICE.nextInt(3); i > 0 && !tokens.isEmpty(); i--) {
            int at = DICE.nextInt(tokens.size());
            String piece = PIECES[DICE.nextInt(PIECES.length)];
            switch (DICE.nextInt(4)) {
                case 0: tokens.remove(at); break;
                case 1: tokens.add(at, tokens.get(at)); break;
                case 2: tokens.set(at, piece); break;
                default: tokens.add(at, piece); break;
            }
        }
        StringBuilder all = new StringBuilder();
        for (String token : tokens) {
            boolean apart = all.length() > 0 && Character.isLetterOrDigit(all.charAt(all.length() - 1)) && !token.equals(";");
            all.append(apart || DICE.nextInt(9) == 0 ? DICE.nextInt(30) == 0 ? "\n" : " " : "").append(token);
        }
        int cut = DICE.nextInt(8) == 0 ? DICE.nextInt(all.length() + 1) : all.length();
        return all.substring(0, cut);
    }

    // ---- both readers side by side

    private static int fensTaken = 0;
    private static int yearsTaken = 0;
    private static final int[] KINDS = new int[8];
    private static final int[] YEARS_KINDS = new int[8];

    public static void main(String[] args) {
        for (int i = 0; i < 6000; i++) {
            String text = broken(fenText());
            if (text.length() <= 900) {
                side(text);
            }
        }
        Check.due("many FENS were taken: " + fensTaken, fensTaken > 1000, true);
        Check.due("many YEARS were taken: " + yearsTaken, yearsTaken > 1000, true);
        for (int kind = 1; kind <= 6; kind++) {
            Check.due("FAULTS of kind " + kind + " in FENS: " + KINDS[kind], KINDS[kind] > 10, true);
        }
        for (int kind : new int[] {1, 2, 3, 4, 6, 7}) {
            Check.due("FAULTS of kind " + kind + " in YEARS: " + YEARS_KINDS[kind], YEARS_KINDS[kind] > 10, true);
        }
        Check.end();
    }

    private static void side(String text) {
        TinFen x = new TinFen();
        int taken = Check.fen(x, text);
        Model f;
        try {
            f = Model.read(text);
        } catch (Fault fault) {
            Check.fault(text, x, taken, fault.kind, fault.place);
            KINDS[fault.kind]++;
            return;
        }
        fensTaken++;
        Check.fine(text, x, taken, f.tins.size());
        Check.same(text, Edges.fen(x), f.told());
        List<Step> years = null;
        for (int i = 0; i < 4; i++) {
            String more = broken(yearsText(f));
            if (more.length() <= 300) {
                years = yearsSide(x, f, more, years);
            }
            liveSide(text + "\n" + more, x, f, years);
        }
    }

    private static List<Step> yearsSide(TinFen x, Model f, String text, List<Step> old) {
        int steps = Check.years(x, text);
        try {
            List<Step> years = f.readYears(text);
            Check.fine(text, x, steps, f.steps);
            yearsTaken++;
            return years;
        } catch (Fault fault) {
            Check.fault(text, x, steps, fault.kind, fault.place);
            YEARS_KINDS[fault.kind]++;
            return old;
        }
    }

    private static void liveSide(String text, TinFen x, Model f, List<Step> years) {
        int seed = DICE.nextInt(10000);
        if (years == null) {
            Check.refused(text, x, x.live(seed), 8);
            return;
        }
        f.live(years, seed);
        Check.fine(text + ", live", x, x.live(seed), f.done);
        int[] due = {f.missed, f.livedPasses, f.foundMany, f.gained, f.left ? 1 : 0};
        for (int what = 0; what < 5; what++) {
            Check.fine(text + ", lived " + what, x, x.lived(what), due[what]);
        }
        Check.same(text, Edges.fen(x), f.told());
    }
}
