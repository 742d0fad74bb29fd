import java.util.ArrayList;
import java.util.List;

/** Reads the texts of the second program, sign by sign, from the grammar of the document. */
final class SecondText {
    private static final String KEPT = " odds trait worth person is lane tin of on lead pass bite learn lose any when got gone"
        + " loop end stop ";

    static final class Fault extends Exception {
        private static final long serialVersionUID = 1;
        final int kind;
        final int place;

        Fault(int kind, int place) {
            super(null, null, false, false);
            this.kind = kind;
            this.place = place;
        }
    }

    /** A STEP by its WORD; a when by the WORD of its test, or its sign behind got. */
    static final class Step {
        String word;
        int first;
        int second;
        /** null: no when, no loop. */
        List<Step> body;
    }

    int steps;
    private final String text;
    private int at;

    SecondText(String text) {
        this.text = text;
    }

    private char sign(int place) {
        return place < text.length() ? text.charAt(place) : 0;
    }

    private void skip() {
        while (at < text.length() && (sign(at) == 32 || sign(at) == 10)) {
            at++;
        }
    }

    private boolean isEnd() {
        skip();
        return at == text.length();
    }

    private static boolean letter(char c) {
        return c >= 'a' && c <= 'z';
    }

    private static boolean digit(char c) {
        return c >= '0' && c <= '9';
    }

    /** The TOKEN that stands here; "" at the end of the text. */
    private String token() throws Fault {
        skip();
        int end = at;
        if (letter(sign(at))) {
            while (letter(sign(end))) {
                end++;
            }
        } else if (digit(sign(at))) {
            while (digit(sign(end))) {
                end++;
            }
            if (end - at > 4) {
                throw new Fault(1, at);
            }
        } else if (at < text.length()) {
            if (";<>=".indexOf(sign(at)) < 0) {
                throw new Fault(1, at);
            }
            end++;
        }
        return text.substring(at, end);
    }

    private void past(String token) {
        at += token.length();
    }

    private boolean take(String wanted) throws Fault {
        boolean here = token().equals(wanted);
        if (here) {
            past(wanted);
        }
        return here;
    }

    private void must(String wanted) throws Fault {
        if (!take(wanted)) {
            throw new Fault(2, at);
        }
    }

    private boolean isName() throws Fault {
        String t = token();
        return !t.isEmpty() && letter(t.charAt(0)) && t.length() <= 8 && !KEPT.contains(" " + t + " ");
    }

    /** The NAME that stands here, not gone past. */
    private String name() throws Fault {
        if (!isName()) {
            throw new Fault(2, at);
        }
        return token();
    }

    private int number(int least, int most) throws Fault {
        String t = token();
        if (t.isEmpty() || !digit(t.charAt(0))) {
            throw new Fault(2, at);
        }
        int value = Integer.parseInt(t);
        if (value < least || value > most) {
            throw new Fault(4, at);
        }
        past(t);
        return value;
    }

    private static int find(SecondFen f, char kind, String name) {
        List<String> names = new ArrayList<>();
        if (kind == 't') {
            f.tins.forEach(t -> names.add(t.name));
        } else if (kind == 'p') {
            f.people.forEach(p -> names.add(p.name));
        } else {
            f.traits.forEach(t -> names.add(t.name));
        }
        return names.indexOf(name);
    }

    /** The number of the TIN (t), PERSON (p), TRAIT (q) whose NAME stands here; a Fault if it is one of 'not'. */
    private int old(SecondFen f, char kind, List<Integer> not) throws Fault {
        String name = name();
        int which = find(f, kind, name);
        if (which < 0) {
            throw new Fault(3, at);
        }
        if (not.contains(which)) {
            throw new Fault(5, at);
        }
        past(name);
        return which;
    }

    private String fresh(SecondFen f) throws Fault {
        String name = name();
        if (find(f, 't', name) >= 0 || find(f, 'p', name) >= 0 || find(f, 'q', name) >= 0) {
            throw new Fault(3, at);
        }
        past(name);
        return name;
    }

    private void room(int many, int most) throws Fault {
        if (many == most) {
            throw new Fault(6, at);
        }
        past(token());
    }

    SecondFen fen() throws Fault {
        SecondFen f = new SecondFen();
        boolean oddsTold = false;
        while (!isEnd()) {
            switch (token()) {
                case "odds":
                    if (oddsTold) {
                        throw new Fault(5, at);
                    }
                    oddsTold = take("odds");
                    f.odds = number(0, 16);
                    break;
                case "trait":
                    room(f.traits.size(), 6);
                    String trait = fresh(f);
                    must("worth");
                    f.addTrait(trait, number(0, 99));
                    break;
                case "person":
                    room(f.people.size(), 7);
                    person(f);
                    break;
                case "lane":
                    room(f.lanes, 12);
                    int one = old(f, 'p', List.of());
                    f.addLane(one, old(f, 'p', List.of(one)));
                    break;
                case "tin":
                    room(f.tins.size(), 9);
                    String tin = fresh(f);
                    must("of");
                    int of = old(f, 'q', List.of());
                    must("on");
                    int on = old(f, 'p', List.of());
                    f.addTin(tin, of, on, take("lead"));
                    break;
                default:
                    throw new Fault(2, at);
            }
            must(";");
        }
        return f;
    }

    private void person(SecondFen f) throws Fault {
        SecondFen.Person p = new SecondFen.Person();
        p.name = fresh(f);
        if (take("is")) {
            while (isName()) {
                p.truths.add(old(f, 'q', new ArrayList<>(p.truths)));
            }
        }
        f.people.add(p);
    }

    List<Step> years(SecondFen f) throws Fault {
        List<Step> all = body(f, 0);
        if (!isEnd()) {
            throw new Fault(2, at);
        }
        return all;
    }

    private List<Step> body(SecondFen f, int depth) throws Fault {
        List<Step> all = new ArrayList<>();
        while (!isEnd() && !token().equals("end")) {
            all.add(step(f, depth));
        }
        return all;
    }

    private Step step(SecondFen f, int depth) throws Fault {
        Step s = new Step();
        s.word = token();
        boolean block = s.word.equals("when") || s.word.equals("loop");
        if (s.word.isEmpty() || !" pass bite learn lose any when loop stop ".contains(" " + s.word + " ")) {
            throw new Fault(2, at);
        }
        if (steps == 30) {
            throw new Fault(6, at);
        }
        if (block && depth == 3) {
            throw new Fault(7, at);
        }
        steps++;
        past(s.word);
        if (s.word.equals("when")) {
            test(f, s);
        } else if (s.word.equals("loop")) {
            s.first = number(1, 99);
        } else {
            String kinds = s.word.equals("pass") ? "tp" : s.word.equals("bite") ? "t" : s.word.startsWith("l") ? "pq" : "";
            two(f, s, kinds);
        }
        must(";");
        if (block) {
            s.body = body(f, depth + 1);
            must("end");
            must(";");
        }
        return s;
    }

    private void two(SecondFen f, Step s, String kinds) throws Fault {
        s.first = kinds.isEmpty() ? 0 : old(f, kinds.charAt(0), List.of());
        s.second = kinds.length() < 2 ? 0 : old(f, kinds.charAt(1), List.of());
    }

    private void test(SecondFen f, Step s) throws Fault {
        s.word = token();
        switch (s.word) {
            case "on":
            case "gone":
                past(s.word);
                two(f, s, s.word.equals("on") ? "tp" : "t");
                break;
            case "got":
                past(s.word);
                s.first = old(f, 'p', List.of());
                s.word = token();
                if (!s.word.matches("[<>=]")) {
                    throw new Fault(2, at);
                }
                past(s.word);
                s.second = number(0, 9999);
                break;
            default:
                throw new Fault(2, at);
        }
    }
}
