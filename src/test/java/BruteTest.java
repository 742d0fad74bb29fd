import java.util.ArrayList;
import java.util.List;
import java.util.Random;

/** Random FENS: what the class reckons against the plainest search over all rows, givings, plays. */
public final class BruteTest {
    private static final Random DICE = new Random(20261118);
    private static TinFen x;
    private static int people;
    private static int traits;
    private static int tins;

    public static void main(String[] args) {
        for (int i = 0; i < 400; i++) {
            randomFen();
            ways();
            givings();
            wheels();
            seen();
            randomFen();
            leastSets();
            games();
            odds();
        }
        Check.end();
    }

    private static boolean has(int set, int i) {
        return (set >> i & 1) != 0;
    }

    private static void randomFen() {
        StringBuilder text = new StringBuilder();
        traits = 1 + DICE.nextInt(6);
        people = 2 + DICE.nextInt(6);
        tins = DICE.nextInt(10);
        for (int i = 0; i < traits; i++) {
            text.append("trait t").append((char) ('a' + i)).append(" worth ").append(DICE.nextInt(4)).append(";");
        }
        int density = 1 + DICE.nextInt(4);
        for (int i = 0; i < people; i++) {
            text.append("person p").append((char) ('a' + i)).append(" is");
            for (int k = 0; k < traits; k++) {
                if (DICE.nextInt(4) < density) {
                    text.append(" t").append((char) ('a' + k));
                }
            }
            text.append(";");
        }
        for (int i = DICE.nextInt(13); i > 0; i--) {
            int one = DICE.nextInt(people);
            int other = (one + 1 + DICE.nextInt(people - 1)) % people;
            text.append("lane p").append((char) ('a' + one)).append(" p").append((char) ('a' + other)).append(";");
        }
        for (int i = 0; i < tins; i++) {
            text.append("tin n").append((char) ('a' + i)).append(" of t").append((char) ('a' + DICE.nextInt(traits)));
            text.append(" on p").append((char) ('a' + DICE.nextInt(people))).append(DICE.nextBoolean() ? " lead;" : ";");
        }
        x = Check.of(text.toString());
        x.rule(DICE.nextInt(17));
        if (DICE.nextInt(3) == 0) {
            for (int i = 0; i < tins; i++) {
                if (DICE.nextInt(4) == 0) {
                    x.drop(i);
                }
            }
        }
    }

    private static boolean canTake(int tin, int from, int to) {
        return has(x.person(from, 1), to) && has(x.person(to, 0), x.tin(tin, 0));
    }

    /** All rows of unlike PEOPLE by PASSES, from the one at the end of this row on; in order of PEOPLE. */
    private static void allRows(int tin, List<Integer> row, List<List<Integer>> all) {
        all.add(new ArrayList<>(row));
        for (int i = 0; i < people; i++) {
            if (!row.contains(i) && canTake(tin, row.get(row.size() - 1), i)) {
                row.add(i);
                allRows(tin, row, all);
                row.remove(row.size() - 1);
            }
        }
    }

    private static void ways() {
        for (int tin = 0; tin < tins; tin++) {
            int holder = x.tin(tin, 1);
            if (holder < 0) {
                Check.refused("GONE", x, x.round(tin), 9);
                continue;
            }
            List<List<Integer>> all = new ArrayList<>();
            List<Integer> start = new ArrayList<>();
            start.add(holder);
            allRows(tin, start, all);
            List<Integer> longest = start;
            int reach = 0;
            for (List<Integer> row : all) {
                longest = row.size() > longest.size() ? row : longest;
                reach |= 1 << row.get(row.size() - 1);
            }
            Check.fine("reach", x, x.reach(tin), reach);
            Check.fine("round", x, x.round(tin), longest.size());
            for (int k = 0; k < longest.size(); k++) {
                Check.fine("roundAt", x, x.roundAt(tin, k), longest.get(k));
            }
            for (int person = 0; person < people; person++) {
                wayTo(tin, person, all);
            }
        }
    }

    private static void wayTo(int tin, int person, List<List<Integer>> all) {
        List<Integer> best = null;
        for (List<Integer> row : all) {
            if (row.get(row.size() - 1) == person && (best == null || row.size() < best.size())) {
                best = row;
            }
        }
        if (best == null) {
            Check.refused("way", x, x.way(tin, person), 8);
            Check.refused("wayAt", x, x.wayAt(tin, person, 0), 8);
            return;
        }
        Check.fine("way", x, x.way(tin, person), best.size() - 1);
        for (int k = 0; k < best.size(); k++) {
            Check.fine("wayAt", x, x.wayAt(tin, person, k), best.get(k));
        }
    }

    private static int most;
    private static int many;
    private static int[] first;

    private static void give(int set, int tin, int[] to, int used, int given) {
        if (tin == tins) {
            most = Math.max(most, given);
            if (given == Integer.bitCount(set)) {
                many++;
                first = first == null ? to.clone() : first;
            }
            return;
        }
        for (int i = 0; has(set, tin) && i < people; i++) {
            if (!has(used, i) && has(x.person(i, 0), x.tin(tin, 0))) {
                to[tin] = i;
                give(set, tin + 1, to, used | 1 << i, given + 1);
            }
        }
        give(set, tin + 1, to, used, given);
    }

    private static void givings() {
        int set = DICE.nextInt(1 << tins) & DICE.nextInt(1 << tins);
        if ((set & x.many(6)) != 0) {
            Check.refused("GONE", x, x.most(set), 9);
            set &= ~x.many(6);
        }
        most = 0;
        many = 0;
        first = null;
        give(set, 0, new int[10], 0, 0);
        Check.fine("most", x, x.most(set), most);
        Check.fine("givings", x, x.givings(set), many);
        for (int i = 0; i < tins; i++) {
            if (!has(set, i)) {
                Check.refused("given, not of the set", x, x.given(set, i), 5);
            } else if (first == null) {
                Check.refused("given, none", x, x.given(set, i), 8);
            } else {
                Check.fine("given", x, x.given(set, i), first[i]);
            }
        }
    }

    private static boolean gives(int one, int other) {
        for (int i = 0; i < tins; i++) {
            if (x.tin(i, 1) == one && canTake(i, one, other)) {
                return true;
            }
        }
        return false;
    }

    private static int wheelsFrom(List<Integer> row, int n) {
        int last = row.get(row.size() - 1);
        if (row.size() == n) {
            return gives(last, row.get(0)) ? 1 : 0;
        }
        int sum = 0;
        for (int i = row.get(0) + 1; i < people; i++) {
            if (!row.contains(i) && gives(last, i)) {
                row.add(i);
                sum += wheelsFrom(row, n);
                row.remove(row.size() - 1);
            }
        }
        return sum;
    }

    private static void wheels() {
        for (int n = 2; n <= 7; n++) {
            int due = 0;
            for (int i = 0; i < people; i++) {
                List<Integer> row = new ArrayList<>();
                row.add(i);
                due += wheelsFrom(row, n);
            }
            Check.fine("wheels " + n, x, x.wheels(n), due);
        }
    }

    private static void seen() {
        int n = DICE.nextInt(people + 1);
        int truth = DICE.nextInt(1 << traits);
        List<Integer> order = new ArrayList<>();
        for (int i = 0; i < people; i++) {
            order.add(i);
        }
        java.util.Collections.shuffle(order, DICE);
        x.tray(0, DICE.nextInt(4), 2 * n);
        for (int i = 0; i < n; i++) {
            x.write(0, 2 * i, order.get(i));
            int told = Integer.bitCount(x.person(order.get(i), 0) & truth);
            x.write(0, 2 * i + 1, DICE.nextInt(12) == 0 ? DICE.nextInt(7) : told);
        }
        List<Integer> sets = new ArrayList<>();
        int sure = (1 << traits) - 1;
        for (int set = 0; set < 1 << traits; set++) {
            boolean so = true;
            for (int i = 0; i < n; i++) {
                so &= Integer.bitCount(x.person(order.get(i), 0) & set) == x.read(0, 2 * i + 1);
            }
            if (so) {
                sets.add(set);
                sure &= set;
            }
        }
        Check.fine("whose", x, x.whose(0, n), sets.size());
        if (sets.isEmpty()) {
            Check.refused("sure", x, x.sure(0, n), 8);
        } else {
            Check.fine("sure", x, x.sure(0, n), sure);
        }
        int best = -1;
        int fewest = 1000;
        for (int i = 0; i < people; i++) {
            if (order.indexOf(i) >= n) {
                int[] groups = new int[7];
                int largest = 0;
                for (int set : sets) {
                    largest = Math.max(largest, ++groups[Integer.bitCount(set & x.person(i, 0))]);
                }
                if (largest < fewest) {
                    fewest = largest;
                    best = i;
                }
            }
        }
        if (sets.size() < 2 || best < 0) {
            Check.refused("ask", x, x.ask(0, n), 8);
        } else {
            Check.fine("ask", x, x.ask(0, n), best);
        }
    }

    private static void leastSets() {
        for (int i = 0; i < 12 && tins > 0; i++) {
            x.recite(DICE.nextInt(tins), DICE.nextInt(people));
        }
        for (int i = 0; i < tins; i++) {
            if (DICE.nextInt(3) == 0) {
                x.bite(i);
            }
        }
        int cover = -1;
        for (int size = 0; size <= traits && cover < 0; size++) {
            for (int set = 0; set < 1 << traits && cover < 0; set++) {
                boolean all = Integer.bitCount(set) == size;
                for (int i = 0; i < people; i++) {
                    all &= (x.person(i, 0) & set) != 0;
                }
                cover = all ? set : cover;
            }
        }
        if (cover < 0) {
            Check.refused("cover", x, x.cover(), 8);
            Check.refused("coverSet", x, x.coverSet(), 8);
        } else {
            Check.fine("cover", x, x.cover(), Integer.bitCount(cover));
            Check.fine("coverSet", x, x.coverSet(), cover);
        }
        int blamed = -1;
        for (int size = 0; size <= people && blamed < 0; size++) {
            for (int set = 0; set < 1 << people && blamed < 0; set++) {
                boolean all = Integer.bitCount(set) == size;
                for (int i = 0; i < tins; i++) {
                    all &= !has(x.many(7), i) || (x.tin(i, 3) & set) != 0;
                }
                blamed = all ? set : blamed;
            }
        }
        Check.fine("blamed", x, x.blamed(), Integer.bitCount(blamed));
        Check.fine("blamedSet", x, x.blamedSet(), blamed);
    }

    private static int[] where = new int[10];
    private static int[] kind = new int[10];
    private static int[] gain = new int[10];
    private static int[] meets = new int[10];
    private static int[] truths = new int[10];

    /** The best for the mover, and in 'choice' his first such move. */
    private static int best(int mover, int other, int turns, int[] choice) {
        if (turns == 0) {
            return 0;
        }
        int best = Integer.MIN_VALUE;
        for (int tin = 0; tin < tins; tin++) {
            for (int to = 0; where[tin] == mover && to < people; to++) {
                if (has(meets[mover], to) && has(truths[to], kind[tin])) {
                    where[tin] = to;
                    int value = gain[tin] - best(other, mover, turns - 1, new int[2]);
                    where[tin] = mover;
                    if (value > best) {
                        best = value;
                        choice[0] = tin;
                        choice[1] = to;
                    }
                }
            }
        }
        int idle = -best(other, mover, turns - 1, new int[2]);
        if (idle > best) {
            best = idle;
            choice[0] = -1;
            choice[1] = -1;
        }
        return best;
    }

    private static void games() {
        for (int i = 0; i < tins; i++) {
            where[i] = x.tin(i, 1);
            kind[i] = x.tin(i, 0);
            gain[i] = x.worth(kind[i]);
        }
        for (int i = 0; i < people; i++) {
            meets[i] = x.person(i, 1);
            truths[i] = x.person(i, 0);
        }
        int one = DICE.nextInt(people);
        int other = (one + 1 + DICE.nextInt(people - 1)) % people;
        for (int turns = 0; turns <= 3; turns++) {
            int[] choice = {-1, -1};
            Check.fine("game of " + turns, x, x.game(one, other, turns), best(one, other, turns, choice));
            for (int what = 0; turns > 0 && what < 2; what++) {
                Check.due("moveOf", x.moveOf(one, other, turns, what), choice[what]);
                Check.due("moveOf, status", x.status(), choice[0] < 0 ? 8 : 0);
            }
        }
    }

    private static void odds() {
        for (int person = 0; person < people; person++) {
            int lead = Integer.bitCount(x.person(person, 2) & x.many(8));
            for (int k = 0; k <= 9; k++) {
                Check.fine("bites", x, x.bites(person, k));
                double due = 0;
                for (int set = 0; set < 1 << lead; set++) {
                    int found = Integer.bitCount(set);
                    double odds = Math.pow(x.many(4) / 16.0, found) * Math.pow(1 - x.many(4) / 16.0, lead - found);
                    due += found >= k ? odds : 0;
                }
                Check.due("bites of " + lead, Math.abs(due - (double) x.top() / x.bottom()) < 1e-12, true);
                Check.due("the bottom is a power of 2", Long.bitCount(x.bottom()), 1);
                Check.due("no common divisor", (x.top() & 1) == 1 || x.bottom() == 1, true);
            }
        }
    }
}
