import java.math.BigInteger;
import java.util.ArrayList;
import java.util.HashMap;
import java.util.List;
import java.util.Map;
import java.util.Set;
import java.util.TreeSet;

/** A FEN of the second program, with all that became of it and its YEARS. */
final class SecondFen {
    static final class Trait {
        String name;
        int worth;
    }

    static final class Person {
        String name;
        final Set<Integer> truths = new TreeSet<>();
        final Set<Integer> meets = new TreeSet<>();
        int got;
    }

    static final class Tin {
        String name;
        int trait;
        /** null: GONE. */
        Integer on;
        boolean lead;
        boolean found;
        final Set<Integer> held = new TreeSet<>();
        int passed;
    }

    /** What LIVED told. */
    static final class Diary {
        int done;
        int missed;
        int passes;
        int found;
        int got;
        boolean left;
        long s;
    }

    int odds = 8;
    int lanes;
    int passes;
    final List<Trait> traits = new ArrayList<>();
    final List<Person> people = new ArrayList<>();
    final List<Tin> tins = new ArrayList<>();
    /** null: there are none. */
    List<SecondText.Step> years;

    SecondFen() {
    }

    SecondFen(SecondFen o) {
        odds = o.odds;
        lanes = o.lanes;
        passes = o.passes;
        years = o.years;
        for (Trait t : o.traits) {
            addTrait(t.name, t.worth);
        }
        for (Person p : o.people) {
            Person copy = addPerson(p.name);
            copy.truths.addAll(p.truths);
            copy.meets.addAll(p.meets);
            copy.got = p.got;
        }
        for (Tin t : o.tins) {
            Tin copy = addTin(t.name, t.trait, 0, t.lead);
            copy.on = t.on;
            copy.found = t.found;
            copy.held.clear();
            copy.held.addAll(t.held);
            copy.passed = t.passed;
        }
    }

    void addTrait(String name, int worth) {
        Trait t = new Trait();
        t.name = name;
        t.worth = worth;
        traits.add(t);
    }

    Person addPerson(String name) {
        Person p = new Person();
        p.name = name;
        people.add(p);
        return p;
    }

    Tin addTin(String name, int trait, int person, boolean lead) {
        Tin t = new Tin();
        t.name = name;
        t.trait = trait;
        t.on = person;
        t.lead = lead;
        t.held.add(person);
        tins.add(t);
        return t;
    }

    void addLane(int one, int other) {
        people.get(one).meets.add(other);
        people.get(other).meets.add(one);
        lanes++;
    }

    int gotByAll() {
        return people.stream().mapToInt(p -> p.got).sum();
    }

    // ---- section 2

    private boolean canGo(Tin t, int from, int to) {
        return people.get(from).meets.contains(to) && people.get(to).truths.contains(t.trait);
    }

    boolean canPass(int tin, int person) {
        Tin t = tins.get(tin);
        return t.on != null && canGo(t, t.on, person);
    }

    /** What the giver has GOT then. */
    int pass(int tin, int person) {
        Tin t = tins.get(tin);
        Person giver = people.get(t.on);
        giver.got += traits.get(t.trait).worth;
        t.on = person;
        t.held.add(person);
        t.passed++;
        passes++;
        return giver.got;
    }

    boolean bite(int tin) {
        Tin t = tins.get(tin);
        if (t.lead) {
            t.found = true;
            t.on = null;
        }
        return t.lead;
    }

    /** Whether this was a change. */
    boolean turn(int person, int trait, boolean is) {
        Set<Integer> truths = people.get(person).truths;
        return is ? truths.add(trait) : truths.remove(trait);
    }

    // ---- section 3

    /** All rows of unlike PEOPLE by PASSES from him who has the TIN, by PEOPLE, one by one. */
    List<List<Integer>> rowsOf(int tin) {
        List<List<Integer>> all = new ArrayList<>();
        grow(tins.get(tin), List.of(tins.get(tin).on), all);
        return all;
    }

    private void grow(Tin t, List<Integer> row, List<List<Integer>> all) {
        all.add(row);
        for (int i = 0; i < people.size(); i++) {
            if (!row.contains(i) && canGo(t, row.get(row.size() - 1), i)) {
                List<Integer> longer = new ArrayList<>(row);
                longer.add(i);
                grow(t, longer, all);
            }
        }
    }

    /** Each giving of all TINS of a heap, in the order of the FIRST GIVING, but not more than so many. */
    List<List<Integer>> givings(List<Integer> heap, int most) {
        List<List<Integer>> all = new ArrayList<>();
        give(heap, new ArrayList<>(), all, most);
        return all;
    }

    private void give(List<Integer> heap, List<Integer> served, List<List<Integer>> all, int most) {
        if (served.size() == heap.size()) {
            all.add(new ArrayList<>(served));
            return;
        }
        int trait = tins.get(heap.get(served.size())).trait;
        for (int i = 0; i < people.size() && all.size() < most; i++) {
            if (!served.contains(i) && people.get(i).truths.contains(trait)) {
                served.add(i);
                give(heap, served, all, most);
                served.remove(served.size() - 1);
            }
        }
    }

    int mostOf(List<Integer> heap, int from, Set<Integer> served) {
        if (from == heap.size()) {
            return 0;
        }
        int best = mostOf(heap, from + 1, served);
        for (int i = 0; i < people.size(); i++) {
            if (people.get(i).truths.contains(tins.get(heap.get(from)).trait) && served.add(i)) {
                best = Math.max(best, 1 + mostOf(heap, from + 1, served));
                served.remove(i);
            }
        }
        return best;
    }

    /** The WHEELS that begin with this row. */
    int wheels(int n, List<Integer> row) {
        if (row.size() == n) {
            return isWheel(row) ? 1 : 0;
        }
        int sum = 0;
        for (int i = 0; i < people.size(); i++) {
            if (!row.contains(i) && (row.isEmpty() || i > row.get(0))) {
                row.add(i);
                sum += wheels(n, row);
                row.remove(row.size() - 1);
            }
        }
        return sum;
    }

    private boolean isWheel(List<Integer> row) {
        for (int i = 0; i < row.size(); i++) {
            int from = row.get(i);
            int to = row.get((i + 1) % row.size());
            if (tins.stream().noneMatch(t -> t.on != null && t.on == from && canGo(t, from, to))) {
                return false;
            }
        }
        return true;
    }

    private int trueOf(int person, Set<Integer> set) {
        Set<Integer> both = new TreeSet<>(people.get(person).truths);
        both.retainAll(set);
        return both.size();
    }

    /** The sets of TRAITS that are so for all these twos. */
    List<Set<Integer>> setsBy(List<Long> twos) {
        List<Set<Integer>> all = new ArrayList<>();
        all.add(new TreeSet<>());
        for (int i = 0; i < traits.size(); i++) {
            for (Set<Integer> set : List.copyOf(all)) {
                Set<Integer> more = new TreeSet<>(set);
                more.add(i);
                all.add(more);
            }
        }
        for (int i = 0; i < twos.size(); i += 2) {
            int person = (int) (long) twos.get(i);
            long number = twos.get(i + 1);
            all.removeIf(set -> trueOf(person, set) != number);
        }
        return all;
    }

    int mostAlike(List<Set<Integer>> sets, int person) {
        Map<Integer, Integer> many = new HashMap<>();
        for (Set<Integer> set : sets) {
            many.merge(trueOf(person, set), 1, Integer::sum);
        }
        return many.values().stream().max(Integer::compare).orElse(0);
    }

    /** Who has which TIN, -1 for GONE. */
    int[] where() {
        return tins.stream().mapToInt(t -> t.on == null ? -1 : t.on).toArray();
    }

    /** By best play what the first gets more, his TIN and to whom (-1: nothing). */
    int[] play(int one, int other, int turns, int[] where) {
        if (turns == 0) {
            return new int[] {0, -1, -1};
        }
        int[] best = null;
        for (int tin = 0; tin < where.length; tin++) {
            for (int i = 0; i < people.size(); i++) {
                if (where[tin] == one && canGo(tins.get(tin), one, i)) {
                    int[] then = where.clone();
                    then[tin] = i;
                    int value = traits.get(tins.get(tin).trait).worth - play(other, one, turns - 1, then)[0];
                    if (best == null || value > best[0]) {
                        best = new int[] {value, tin, i};
                    }
                }
            }
        }
        int idle = -play(other, one, turns - 1, where)[0];
        return best == null || idle > best[0] ? new int[] {idle, -1, -1} : best;
    }

    /** Of 16 to the power of 'lead' ways, those in which k or more are FOUND: one TIN more at a time. */
    BigInteger found(int lead, long k) {
        if (lead == 0) {
            return k <= 0 ? BigInteger.ONE : BigInteger.ZERO;
        }
        BigInteger hit = found(lead - 1, k - 1).multiply(BigInteger.valueOf(odds));
        return hit.add(found(lead - 1, k).multiply(BigInteger.valueOf(16 - odds)));
    }

    // ---- section 4

    Diary live(long seed) {
        Diary d = new Diary();
        d.s = seed;
        int ahead = gotByAll();
        goThrough(years, d);
        d.got = gotByAll() - ahead;
        return d;
    }

    /** Whether it goes on behind these. */
    private boolean goThrough(List<SecondText.Step> steps, Diary d) {
        for (SecondText.Step step : steps) {
            d.left = d.done == 300;
            if (d.left) {
                return false;
            }
            d.done++;
            int turns = step.body == null ? 0 : step.word.equals("loop") ? step.first : holds(step) ? 1 : 0;
            for (int i = 0; i < turns; i++) {
                if (!goThrough(step.body, d)) {
                    return false;
                }
            }
            if (step.word.equals("stop")) {
                return false;
            }
            d.missed += step.body == null && !happens(step, d) ? 1 : 0;
        }
        return true;
    }

    private boolean holds(SecondText.Step step) {
        switch (step.word) {
            case "on":
                return Integer.valueOf(step.second).equals(tins.get(step.first).on);
            case "gone":
                return tins.get(step.first).on == null;
            default:
                int sign = Integer.compare(people.get(step.first).got, step.second);
                return sign == (step.word.equals("<") ? -1 : step.word.equals(">") ? 1 : 0);
        }
    }

    private static int draw(Diary d, int n) {
        d.s = (d.s * 2971 + 10891) % 65536;
        return (int) (d.s / 8 % n);
    }

    /** Whether the STEP was not MISSED. */
    private boolean happens(SecondText.Step step, Diary d) {
        switch (step.word) {
            case "pass":
                return passes(step.first, step.second, d);
            case "bite":
                Tin t = tins.get(step.first);
                if (t.on == null || !t.lead || draw(d, 16) >= odds) {
                    return false;
                }
                d.found++;
                return bite(step.first);
            case "any":
                if (tins.isEmpty()) {
                    return false;
                }
                int tin = draw(d, tins.size());
                return passes(tin, draw(d, people.size()), d);
            default:
                return turn(step.first, step.second, step.word.equals("learn"));
        }
    }

    private boolean passes(int tin, int person, Diary d) {
        if (!canPass(tin, person)) {
            return false;
        }
        pass(tin, person);
        d.passes++;
        return true;
    }
}
