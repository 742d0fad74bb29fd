import java.math.BigInteger;
import java.util.ArrayList;
import java.util.List;
import java.util.Set;
import java.util.TreeSet;

/**
 * The document, line by line, as a second program: the plainest one, that looks at all rows, sets, givings and plays
 * there are and makes as many objects as it likes. A call is told by its name; a boolean counts 1 or 0.
 */
final class Second {
    private static final Set<String> SAYS_YES = Set.of("tray", "write", "pour", "recite", "teach", "price", "rule", "bites",
        "share", "mean");
    private static final Set<String> HAS_NO_STATUS = Set.of("status", "fault", "feed", "top", "bottom");

    /** STATUS of a call that can't be done. */
    private static final class Refusal extends RuntimeException {
        private static final long serialVersionUID = 1;
        final int status;

        Refusal(int status) {
            super(null, null, false, false);
            this.status = status;
        }
    }

    /** The first of those STATUS numbers that hold, as section 5 counts them. */
    private static final class Asked {
        private final TreeSet<Integer> holding = new TreeSet<>();

        Asked when(int status, boolean holds) {
            if (holds) {
                holding.add(status);
            }
            return this;
        }

        void settle() {
            if (!holding.isEmpty()) {
                throw new Refusal(holding.first());
            }
        }
    }

    private static final class Row {
        int bits;
        final List<Long> numbers = new ArrayList<>();
    }

    private int status = 0;
    private BigInteger over = BigInteger.ZERO;
    private BigInteger under = BigInteger.ONE;
    private final Row[] trays = new Row[4];
    private final StringBuilder tape = new StringBuilder();
    private int faultKind = -1;
    private int faultPlace = -1;
    private SecondFen fen = new SecondFen();
    private final List<SecondFen> marks = new ArrayList<>();
    private SecondFen.Diary diary = null;

    long call(String name, long... a) {
        if (HAS_NO_STATUS.contains(name)) {
            return told(name, a);
        }
        try {
            long answer = done(name, a);
            status = 0;
            return answer;
        } catch (Refusal refusal) {
            status = refusal.status;
            return SAYS_YES.contains(name) ? 0 : -1;
        }
    }

    private long told(String name, long[] a) {
        switch (name) {
            case "status":
                return status;
            case "top":
                return over.longValueExact();
            case "bottom":
                return under.longValueExact();
            case "fault":
                return a[0] == 0 ? faultKind : a[0] == 1 ? faultPlace : -1;
            default:
                return feed(a);
        }
    }

    private long done(String name, long[] a) {
        switch (name) {
            case "tray":
            case "write":
            case "read":
            case "pour":
                return trayCall(name, a);
            case "fen":
            case "years":
            case "many":
            case "worth":
            case "person":
            case "tin":
            case "copyGot":
                return textCall(name, a);
            case "way":
            case "wayAt":
            case "reach":
            case "next":
            case "round":
            case "roundAt":
                return wayCall(name, a);
            case "most":
            case "givings":
            case "given":
            case "cover":
            case "coverSet":
            case "blamed":
            case "blamedSet":
            case "wheels":
                return givingCall(name, a);
            case "whose":
            case "sure":
            case "ask":
                return seenCall(name, a);
            case "game":
            case "moveOf":
            case "bites":
            case "share":
                return gameCall(name, a);
            case "live":
            case "lived":
            case "mean":
            case "mark":
            case "back":
                return yearsCall(name, a);
            default:
                return deed(name, a);
        }
    }

    // ---- TRAYS

    private boolean noTray(long tray) {
        return tray < 0 || tray > 3;
    }

    private boolean missing(long tray) {
        return !noTray(tray) && trays[(int) tray] == null;
    }

    private Row row(long tray) {
        new Asked().when(1, noTray(tray)).when(3, missing(tray)).settle();
        return trays[(int) tray];
    }

    private static long cut(long v, int bits) {
        BigInteger size = BigInteger.ONE.shiftLeft(bits);
        BigInteger rest = BigInteger.valueOf(v).mod(size);
        boolean below = rest.compareTo(size.shiftRight(1)) >= 0;
        return (below ? rest.subtract(size) : rest).longValueExact();
    }

    private static boolean hasPlaces(Row row, long from, long many) {
        return from >= 0 && from + many <= row.numbers.size();
    }

    private long trayCall(String name, long[] a) {
        if (name.equals("tray")) {
            new Asked().when(1, noTray(a[0]) || a[1] < 0 || a[1] > 3).when(5, a[2] > 60).when(6, a[2] < 0).settle();
            Row row = new Row();
            row.bits = new int[] {8, 16, 32, 64}[(int) a[1]];
            for (int i = 0; i < a[2]; i++) {
                row.numbers.add(0L);
            }
            trays[(int) a[0]] = row;
            return 1;
        }
        if (name.equals("pour")) {
            return pour(a);
        }
        Row row = row(a[0]);
        new Asked().when(4, !hasPlaces(row, a[1], 1)).settle();
        if (name.equals("read")) {
            return row.numbers.get((int) a[1]);
        }
        row.numbers.set((int) a[1], cut(a[2], row.bits));
        return 1;
    }

    private long pour(long[] a) {
        if (noTray(a[0]) || noTray(a[2])) {
            throw new Refusal(1);
        }
        if (missing(a[0]) || missing(a[2])) {
            throw new Refusal(3);
        }
        Row from = row(a[0]);
        Row to = row(a[2]);
        if (from.bits != to.bits) {
            throw new Refusal(11);
        }
        if (a[4] < 0) {
            throw new Refusal(6);
        }
        if (!hasPlaces(from, a[1], a[4]) || !hasPlaces(to, a[3], a[4])) {
            throw new Refusal(4);
        }
        List<Long> old = new ArrayList<>(from.numbers);
        for (int i = 0; i < a[4]; i++) {
            to.numbers.set((int) a[3] + i, old.get((int) a[1] + i));
        }
        return 1;
    }

    // ---- texts

    private long feed(long[] a) {
        if (tape.length() + 20 > 900) {
            return -1;
        }
        for (long four : a) {
            for (int k = 3; k >= 0; k--) {
                tape.append((char) Math.floorMod(Math.floorDiv(four, 1L << 8 * k), 256L));
            }
        }
        return tape.length();
    }

    private long read(String name, long n) {
        boolean isFen = name.equals("fen");
        new Asked().when(5, n < 0 || n > tape.length() || !isFen && n > 300).settle();
        SecondText text = new SecondText(tape.substring(0, (int) n));
        tape.setLength(0);
        try {
            long answer;
            if (isFen) {
                SecondFen read = text.fen();
                fen = read;
                answer = fen.tins.size();
            } else {
                List<SecondText.Step> read = text.years(fen);
                fen.years = read;
                answer = text.steps;
            }
            faultKind = 0;
            faultPlace = -1;
            return answer;
        } catch (SecondText.Fault fault) {
            faultKind = fault.kind;
            faultPlace = fault.place;
            throw new Refusal(10);
        }
    }

    private boolean noTrait(long trait) {
        return trait < 0 || trait >= fen.traits.size();
    }

    private boolean noPerson(long person) {
        return person < 0 || person >= fen.people.size();
    }

    private boolean noTin(long tin) {
        return tin < 0 || tin >= fen.tins.size();
    }

    private boolean gone(long tin) {
        return !noTin(tin) && fen.tins.get((int) tin).on == null;
    }

    private static long asNumber(Set<Integer> set) {
        long sum = 0;
        for (int i : set) {
            sum += Math.round(Math.pow(2, i));
        }
        return sum;
    }

    private long textCall(String name, long[] a) {
        switch (name) {
            case "many":
                new Asked().when(5, a[0] < 0 || a[0] > 9).settle();
                return many((int) a[0]);
            case "worth":
                new Asked().when(2, noTrait(a[0])).settle();
                return fen.traits.get((int) a[0]).worth;
            case "person":
                new Asked().when(2, noPerson(a[0])).when(5, a[1] < 0 || a[1] > 4).settle();
                return person((int) a[0], (int) a[1]);
            case "tin":
                new Asked().when(2, noTin(a[0])).when(5, a[1] < 0 || a[1] > 4).when(8, a[1] == 1 && gone(a[0])).settle();
                return tin(fen.tins.get((int) a[0]), (int) a[1]);
            case "copyGot":
                Row row = row(a[0]);
                new Asked().when(4, row.numbers.size() < fen.people.size()).settle();
                for (int i = 0; i < fen.people.size(); i++) {
                    row.numbers.set(i, cut(fen.people.get(i).got, row.bits));
                }
                return fen.people.size();
            default:
                return read(name, a[0]);
        }
    }

    private long many(int what) {
        Set<Integer> set = new TreeSet<>();
        long worth = 0;
        for (int i = 0; i < fen.tins.size(); i++) {
            SecondFen.Tin t = fen.tins.get(i);
            if (what == 6 && t.on == null || what == 7 && t.found || what == 8 && t.lead) {
                set.add(i);
            }
            worth += t.on == null ? 0 : fen.traits.get(t.trait).worth;
        }
        long[] all = {fen.traits.size(), fen.people.size(), fen.lanes, fen.tins.size(), fen.odds, fen.passes,
            asNumber(set), asNumber(set), asNumber(set), worth};
        return all[what];
    }

    private long person(int person, int what) {
        Set<Integer> on = new TreeSet<>();
        long worth = 0;
        for (int i = 0; i < fen.tins.size(); i++) {
            if (Integer.valueOf(person).equals(fen.tins.get(i).on)) {
                on.add(i);
                worth += fen.traits.get(fen.tins.get(i).trait).worth;
            }
        }
        SecondFen.Person p = fen.people.get(person);
        return new long[] {asNumber(p.truths), asNumber(p.meets), asNumber(on), p.got, worth}[what];
    }

    private static long tin(SecondFen.Tin t, int what) {
        return new long[] {t.trait, t.on == null ? -1 : t.on, t.lead ? 1 : 0, asNumber(t.held), t.passed}[what];
    }

    // ---- what is done

    private long deed(String name, long[] a) {
        switch (name) {
            case "pass":
                new Asked().when(2, noTin(a[0]) || noPerson(a[1])).settle();
                new Asked().when(9, !fen.canPass((int) a[0], (int) a[1])).settle();
                return fen.pass((int) a[0], (int) a[1]);
            case "bite":
                new Asked().when(2, noTin(a[0])).when(9, gone(a[0])).settle();
                return fen.bite((int) a[0]) ? 1 : 0;
            case "recite":
                new Asked().when(2, noTin(a[0]) || noPerson(a[1])).settle();
                return recite(fen.tins.get((int) a[0]), (int) a[1]);
            case "drop":
                new Asked().when(2, noTin(a[0])).when(9, gone(a[0])).settle();
                int had = fen.tins.get((int) a[0]).on;
                fen.tins.get((int) a[0]).on = null;
                return had;
            case "strike":
                new Asked().when(2, noTrait(a[0]) || noPerson(a[1])).when(7, fen.tins.size() == 9).settle();
                fen.addTin("", (int) a[0], (int) a[1], a[2] == 1);
                return fen.tins.size() - 1;
            case "teach":
                new Asked().when(2, noTrait(a[1]) || noPerson(a[0])).settle();
                new Asked().when(9, !fen.turn((int) a[0], (int) a[1], a[2] == 1)).settle();
                return 1;
            case "lane":
                new Asked().when(2, noPerson(a[0]) || noPerson(a[1])).when(5, a[0] == a[1]).when(7, fen.lanes == 12).settle();
                fen.addLane((int) a[0], (int) a[1]);
                return fen.lanes;
            case "price":
                new Asked().when(2, noTrait(a[0])).when(5, a[1] < 0 || a[1] > 99).settle();
                fen.traits.get((int) a[0]).worth = (int) a[1];
                return 1;
            case "rule":
                new Asked().when(5, a[0] < 0 || a[0] > 16).settle();
                fen.odds = (int) a[0];
                return 1;
            default:
                throw new IllegalStateException(name);
        }
    }

    private long recite(SecondFen.Tin t, int person) {
        boolean isTrue = fen.people.get(person).truths.contains(t.trait);
        boolean onHim = t.on != null && t.on == person;
        new Asked().when(9, t.found || !isTrue || onHim).settle();
        t.on = person;
        t.held.add(person);
        return 1;
    }

    // ---- ways of a TIN

    private long wayCall(String name, long[] a) {
        boolean to = name.startsWith("way");
        new Asked().when(2, noTin(a[0]) || to && noPerson(a[1])).when(9, gone(a[0])).settle();
        int tin = (int) a[0];
        List<List<Integer>> rows = fen.rowsOf(tin);
        switch (name) {
            case "way":
                List<Integer> way = shortest(rows, (int) a[1]);
                new Asked().when(8, way == null).settle();
                return way.size() - 1;
            case "wayAt":
                return at(shortest(rows, (int) a[1]), a[2]);
            case "round":
                return longest(rows).size();
            case "roundAt":
                return at(longest(rows), a[1]);
            default:
                Set<Integer> ends = new TreeSet<>();
                for (List<Integer> row : rows) {
                    if (name.equals("reach") || row.size() == 2) {
                        ends.add(row.get(row.size() - 1));
                    }
                }
                return asNumber(ends);
        }
    }

    private static long at(List<Integer> row, long k) {
        new Asked().when(8, row == null || k < 0 || k >= row.size()).settle();
        return row.get((int) k);
    }

    /** The rows stand in their order by PEOPLE, so the first of its length is the one. */
    private static List<Integer> shortest(List<List<Integer>> rows, int person) {
        List<Integer> best = null;
        for (List<Integer> row : rows) {
            if (row.get(row.size() - 1) == person && (best == null || row.size() < best.size())) {
                best = row;
            }
        }
        return best;
    }

    private static List<Integer> longest(List<List<Integer>> rows) {
        List<Integer> best = rows.get(0);
        for (List<Integer> row : rows) {
            if (row.size() > best.size()) {
                best = row;
            }
        }
        return best;
    }

    // ---- givings

    private List<Integer> heap(long tins) {
        boolean can = tins >= 0 && tins < 1L << fen.tins.size();
        List<Integer> heap = new ArrayList<>();
        boolean someGone = false;
        for (int i = 0; can && i < fen.tins.size(); i++) {
            if (tins / (1L << i) % 2 == 1) {
                heap.add(i);
                someGone |= gone(i);
            }
        }
        new Asked().when(5, !can).when(9, someGone).settle();
        return heap;
    }

    private long givingCall(String name, long[] a) {
        switch (name) {
            case "most":
                return fen.mostOf(heap(a[0]), 0, new TreeSet<>());
            case "givings":
                return fen.givings(heap(a[0]), 1 << 30).size();
            case "given":
                new Asked().when(2, noTin(a[1])).settle();
                boolean inSet = a[0] >= 0 && a[0] / (1L << a[1]) % 2 == 1;
                new Asked().when(5, !inSet).settle();
                List<Integer> heap = heap(a[0]);
                List<List<Integer>> first = fen.givings(heap, 1);
                new Asked().when(8, first.isEmpty()).settle();
                return first.get(0).get(heap.indexOf((int) a[1]));
            case "wheels":
                new Asked().when(5, a[0] < 2 || a[0] > 7).settle();
                return fen.wheels((int) a[0], new ArrayList<>());
            default:
                return leastSet(name);
        }
    }

    private long leastSet(String name) {
        boolean cover = name.startsWith("cover");
        List<Set<Integer>> groups = new ArrayList<>();
        if (cover) {
            fen.people.forEach(p -> groups.add(p.truths));
        } else {
            fen.tins.stream().filter(t -> t.found).forEach(t -> groups.add(t.held));
        }
        int size = cover ? fen.traits.size() : fen.people.size();
        long best = -1;
        for (long set = (1L << size) - 1; set >= 0; set--) {
            long tried = set;
            boolean meetsAll = groups.stream().allMatch(g -> g.stream().anyMatch(i -> (tried >> i) % 2 == 1));
            if (meetsAll && (best < 0 || Long.bitCount(set) <= Long.bitCount(best))) {
                best = set;
            }
        }
        new Asked().when(8, best < 0).settle();
        return name.endsWith("Set") ? best : Long.bitCount(best);
    }

    // ---- what was seen

    private long seenCall(String name, long[] a) {
        Row row = row(a[0]);
        new Asked().when(4, 2 * a[1] > row.numbers.size()).settle();
        new Asked().when(5, a[1] < 0 || a[1] > 7).settle();
        Set<Long> toldOf = new TreeSet<>();
        for (int i = 0; i < a[1]; i++) {
            long person = row.numbers.get(2 * i);
            long number = row.numbers.get(2 * i + 1);
            new Asked().when(5, noPerson(person) || number < 0 || number > 6 || !toldOf.add(person)).settle();
        }
        List<Set<Integer>> sets = fen.setsBy(row.numbers.subList(0, 2 * (int) a[1]));
        if (name.equals("whose")) {
            return sets.size();
        }
        if (name.equals("sure")) {
            new Asked().when(8, sets.isEmpty()).settle();
            Set<Integer> common = new TreeSet<>(sets.get(0));
            sets.forEach(common::retainAll);
            return asNumber(common);
        }
        int best = -1;
        int fewest = Integer.MAX_VALUE;
        for (int i = 0; i < fen.people.size() && sets.size() >= 2; i++) {
            if (!toldOf.contains((long) i) && fen.mostAlike(sets, i) < fewest) {
                best = i;
                fewest = fen.mostAlike(sets, i);
            }
        }
        new Asked().when(8, best < 0).settle();
        return best;
    }

    // ---- games, odds

    private long gameCall(String name, long[] a) {
        switch (name) {
            case "bites":
                new Asked().when(2, noPerson(a[0])).when(5, a[1] < 0 || a[1] > 9).settle();
                int lead = 0;
                for (SecondFen.Tin t : fen.tins) {
                    lead += t.lead && t.on != null && t.on == a[0] ? 1 : 0;
                }
                return fraction(fen.found(lead, a[1]), BigInteger.valueOf(16).pow(lead));
            case "share":
                new Asked().when(2, noPerson(a[0])).settle();
                new Asked().when(8, many(9) == 0).settle();
                return fraction(BigInteger.valueOf(person((int) a[0], 4)), BigInteger.valueOf(many(9)));
            default:
                boolean move = name.equals("moveOf");
                new Asked().when(2, noPerson(a[0]) || noPerson(a[1])).when(5, a[0] == a[1] || a[2] < 0 || a[2] > 3
                    || move && (a[2] == 0 || a[3] < 0 || a[3] > 1)).settle();
                int[] best = fen.play((int) a[0], (int) a[1], (int) a[2], fen.where());
                new Asked().when(8, move && best[1] < 0).settle();
                return move ? best[1 + (int) a[3]] : best[0];
        }
    }

    private long fraction(BigInteger top, BigInteger bottom) {
        BigInteger common = top.gcd(bottom);
        over = top.divide(common);
        under = bottom.divide(common);
        return 1;
    }

    // ---- YEARS, MARKS

    private long yearsCall(String name, long[] a) {
        switch (name) {
            case "live":
                new Asked().when(5, a[0] < 0 || a[0] > 9999).when(8, fen.years == null).settle();
                diary = fen.live(a[0]);
                return diary.done;
            case "lived":
                new Asked().when(5, a[0] < 0 || a[0] > 4).when(8, diary == null).settle();
                return new long[] {diary.missed, diary.passes, diary.found, diary.got, diary.left ? 1 : 0}[(int) a[0]];
            case "mean":
                boolean seedsCanBe = a[1] >= 1 && a[1] <= 20 && a[0] >= 0 && a[0] + a[1] - 1 <= 9999;
                new Asked().when(5, !seedsCanBe).when(8, fen.years == null).settle();
                BigInteger sum = BigInteger.ZERO;
                for (int i = 0; i < a[1]; i++) {
                    SecondFen copy = new SecondFen(fen);
                    copy.live(a[0] + i);
                    sum = sum.add(BigInteger.valueOf(copy.gotByAll()));
                }
                return fraction(sum, BigInteger.valueOf(a[1]));
            case "mark":
                new Asked().when(7, marks.size() == 3).settle();
                marks.add(new SecondFen(fen));
                return marks.size();
            default:
                new Asked().when(8, marks.isEmpty()).settle();
                fen = marks.remove(marks.size() - 1);
                return marks.size();
        }
    }

    int fed() {
        return tape.length();
    }

    /** The FEN as it is now, for those who choose the next call. */
    SecondFen now() {
        return fen;
    }
}
