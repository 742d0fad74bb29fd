import java.util.Arrays;

/**
 * A fen in which compliments are coins of tin: the public face of the document, with its STATUS.
 *
 * All rows are made by constructors and used again, so that no call makes an object.
 */
public final class TinFen {
    public static final int NONE = -1;

    private static final int NO_TRAY = 1;
    private static final int NO_SUCH = 2;
    private static final int MISSING = 3;
    private static final int NO_PLACE = 4;
    private static final int BAD_NUMBER = 5;
    private static final int BELOW_ZERO = 6;
    private static final int TOO_MANY = 7;
    private static final int THERE_IS_NONE = 8;
    private static final int CANT_BE = 9;
    private static final int FAULTY = 10;
    private static final int UNLIKE = 11;

    private static final int MAX_TRAYS = 4;
    private static final int MAX_CELLS = 60;
    private static final int MAX_TAPE = 900;
    private static final int MAX_YEARS_TEXT = 300;
    private static final int MAX_TRAITS = 6;
    private static final int MAX_PEOPLE = 7;
    private static final int MAX_LANES = 12;
    private static final int MAX_TINS = 9;
    private static final int MAX_MARKS = 3;
    private static final int MAX_WORTH = 99;
    private static final int MAX_ODDS = 16;
    private static final int MAX_SEED = 9999;
    private static final int MAX_SEEDS = 20;
    private static final int MAX_TURNS = 3;
    private static final int USUAL_ODDS = 8;

    private int status;
    private long top;
    private long bottom;
    private final byte[] tape;
    private int fed;
    private final Tray[] trays;
    private final Tokens tokens;
    private final FenReader fenReader;
    private final YearsReader yearsReader;
    private Fen fen;
    private Fen draft;
    private final Fen trial;
    private final Fen[] marks;
    private int marked;
    private final Life life;
    private final Life trialLife;
    private final Rows rows;
    private final Givings gifts;
    private final Seen seen;
    private final Game play;

    public TinFen() {
        status = 0;
        top = 0;
        bottom = 1;
        tape = new byte[MAX_TAPE];
        fed = 0;
        trays = new Tray[MAX_TRAYS];
        for (int i = 0; i < MAX_TRAYS; i++) {
            trays[i] = new Tray();
        }
        tokens = new Tokens();
        fenReader = new FenReader(tokens);
        yearsReader = new YearsReader(tokens);
        fen = new Fen();
        draft = new Fen();
        trial = new Fen();
        marks = new Fen[MAX_MARKS];
        for (int i = 0; i < MAX_MARKS; i++) {
            marks[i] = new Fen();
        }
        marked = 0;
        life = new Life();
        trialLife = new Life();
        rows = new Rows();
        gifts = new Givings();
        seen = new Seen();
        play = new Game();
    }

    public int status() {
        return status;
    }

    public long top() {
        return top;
    }

    public long bottom() {
        return bottom;
    }

    // ---- TRAYS

    public boolean tray(int tray, int sort, int many) {
        if (noTray(tray) || sort < 0 || sort > Tray.LAST_SORT) {
            return refuse(NO_TRAY);
        }
        if (many > MAX_CELLS) {
            return refuse(BAD_NUMBER);
        }
        if (many < 0) {
            return refuse(BELOW_ZERO);
        }
        trays[tray].lay(sort, many);
        return agree();
    }

    public boolean write(int tray, int place, long v) {
        int wrong = placeStatus(tray, place);
        if (wrong != 0) {
            return refuse(wrong);
        }
        trays[tray].put(place, v);
        return agree();
    }

    public long read(int tray, int place) {
        int wrong = placeStatus(tray, place);
        if (wrong != 0) {
            return fail(wrong);
        }
        status = 0;
        return trays[tray].cells[place];
    }

    public boolean pour(int tray, int i, int to, int j, int many) {
        if (noTray(tray) || noTray(to)) {
            return refuse(NO_TRAY);
        }
        Tray from = trays[tray];
        Tray into = trays[to];
        if (!from.there || !into.there) {
            return refuse(MISSING);
        }
        if (from.sort != into.sort) {
            return refuse(UNLIKE);
        }
        if (many < 0) {
            return refuse(BELOW_ZERO);
        }
        if (!from.hasRun(i, many) || !into.hasRun(j, many)) {
            return refuse(NO_PLACE);
        }
        System.arraycopy(from.cells, i, into.cells, j, many);
        return agree();
    }

    // ---- texts

    public int feed(int a, int b, int c, int d, int e) {
        if (fed + 20 > MAX_TAPE) {
            return NONE;
        }
        putBytes(a);
        putBytes(b);
        putBytes(c);
        putBytes(d);
        putBytes(e);
        return fed;
    }

    public int fen(int n) {
        if (n < 0 || n > fed) {
            return fail(BAD_NUMBER);
        }
        boolean taken = fenReader.readInto(draft, tape, n);
        fed = 0;
        if (!taken) {
            return fail(FAULTY);
        }
        Fen old = fen;
        fen = draft;
        draft = old;
        return give(fen.tins);
    }

    public int years(int n) {
        if (n < 0 || n > fed || n > MAX_YEARS_TEXT) {
            return fail(BAD_NUMBER);
        }
        boolean taken = yearsReader.readInto(draft.years, fen, tape, n);
        fed = 0;
        if (!taken) {
            return fail(FAULTY);
        }
        fen.years.copyFrom(draft.years);
        return give(fen.years.steps);
    }

    public int fault(int what) {
        if (what == 0) {
            return tokens.faultKind;
        }
        return what == 1 ? tokens.faultPlace : NONE;
    }

    public int many(int what) {
        switch (what) {
            case 0:
                return give(fen.traits);
            case 1:
                return give(fen.people);
            case 2:
                return give(fen.lanes);
            case 3:
                return give(fen.tins);
            case 4:
                return give(fen.odds);
            case 5:
                return give(fen.passes);
            case 6:
                return give(fen.wornBy(NONE));
            case 7:
                return give(fen.found);
            case 8:
                return give(fen.lead);
            case 9:
                return give(fen.worthOfAll());
            default:
                return fail(BAD_NUMBER);
        }
    }

    public int worth(int trait) {
        if (noTrait(trait)) {
            return fail(NO_SUCH);
        }
        return give(fen.worth[trait]);
    }

    public int person(int person, int what) {
        if (noPerson(person)) {
            return fail(NO_SUCH);
        }
        switch (what) {
            case 0:
                return give(fen.truths[person]);
            case 1:
                return give(fen.meets[person]);
            case 2:
                return give(fen.wornBy(person));
            case 3:
                return give(fen.got[person]);
            case 4:
                return give(fen.worthOf(fen.wornBy(person)));
            default:
                return fail(BAD_NUMBER);
        }
    }

    public int tin(int tin, int what) {
        if (noTin(tin)) {
            return fail(NO_SUCH);
        }
        switch (what) {
            case 0:
                return give(fen.traitOf[tin]);
            case 1:
                return fen.isGone(tin) ? fail(THERE_IS_NONE) : give(fen.holder[tin]);
            case 2:
                return give((fen.lead >> tin) & 1);
            case 3:
                return give(fen.held[tin]);
            case 4:
                return give(fen.passed[tin]);
            default:
                return fail(BAD_NUMBER);
        }
    }

    public int copyGot(int tray) {
        int wrong = trayStatus(tray);
        if (wrong != 0) {
            return fail(wrong);
        }
        if (!trays[tray].hasRun(0, fen.people)) {
            return fail(NO_PLACE);
        }
        for (int i = 0; i < fen.people; i++) {
            trays[tray].put(i, fen.got[i]);
        }
        return give(fen.people);
    }

    // ---- what is done

    public int pass(int tin, int person) {
        if (noTin(tin) || noPerson(person)) {
            return fail(NO_SUCH);
        }
        if (!fen.canHand(tin, person)) {
            return fail(CANT_BE);
        }
        int giver = fen.holder[tin];
        fen.hand(tin, person);
        return give(fen.got[giver]);
    }

    public int bite(int tin) {
        int wrong = tinStatus(tin);
        if (wrong != 0) {
            return fail(wrong);
        }
        if (!fen.isLead(tin)) {
            return give(0);
        }
        fen.find(tin);
        return give(1);
    }

    public boolean recite(int tin, int person) {
        if (noTin(tin) || noPerson(person)) {
            return refuse(NO_SUCH);
        }
        boolean isFound = ((fen.found >> tin) & 1) != 0;
        if (isFound || !fen.isTrue(person, fen.traitOf[tin]) || fen.holder[tin] == person) {
            return refuse(CANT_BE);
        }
        fen.putOn(tin, person);
        return agree();
    }

    public int drop(int tin) {
        int wrong = tinStatus(tin);
        if (wrong != 0) {
            return fail(wrong);
        }
        int had = fen.holder[tin];
        fen.holder[tin] = NONE;
        return give(had);
    }

    public int strike(int trait, int person, boolean lead) {
        if (noTrait(trait) || noPerson(person)) {
            return fail(NO_SUCH);
        }
        if (fen.tins >= MAX_TINS) {
            return fail(TOO_MANY);
        }
        fen.addTin(Tokens.NO_NAME, trait, person, lead);
        return give(fen.tins - 1);
    }

    public boolean teach(int person, int trait, boolean is) {
        if (noPerson(person) || noTrait(trait)) {
            return refuse(NO_SUCH);
        }
        if (fen.isTrue(person, trait) == is) {
            return refuse(CANT_BE);
        }
        fen.turn(person, trait);
        return agree();
    }

    public int lane(int person, int other) {
        if (noPerson(person) || noPerson(other)) {
            return fail(NO_SUCH);
        }
        if (person == other) {
            return fail(BAD_NUMBER);
        }
        if (fen.lanes >= MAX_LANES) {
            return fail(TOO_MANY);
        }
        fen.addLane(person, other);
        return give(fen.lanes);
    }

    public boolean price(int trait, int worth) {
        if (noTrait(trait)) {
            return refuse(NO_SUCH);
        }
        if (worth < 0 || worth > MAX_WORTH) {
            return refuse(BAD_NUMBER);
        }
        fen.worth[trait] = worth;
        return agree();
    }

    public boolean rule(int odds) {
        if (odds < 0 || odds > MAX_ODDS) {
            return refuse(BAD_NUMBER);
        }
        fen.odds = odds;
        return agree();
    }

    // ---- ways of a TIN

    public int way(int tin, int person) {
        int wrong = wayStatus(tin, person);
        if (wrong != 0) {
            return fail(wrong);
        }
        int far = Rows.distance(fen, fen.holder[tin], person, fen.believersIn(tin));
        return far < 0 ? fail(THERE_IS_NONE) : give(far);
    }

    public int wayAt(int tin, int person, int k) {
        int wrong = wayStatus(tin, person);
        if (wrong != 0) {
            return fail(wrong);
        }
        int who = Rows.onWay(fen, tin, person, k);
        return who < 0 ? fail(THERE_IS_NONE) : give(who);
    }

    public int reach(int tin) {
        int wrong = tinStatus(tin);
        return wrong != 0 ? fail(wrong) : give(Rows.reached(fen, tin));
    }

    public int next(int tin) {
        int wrong = tinStatus(tin);
        return wrong != 0 ? fail(wrong) : give(fen.takers(tin));
    }

    public int round(int tin) {
        int wrong = tinStatus(tin);
        if (wrong != 0) {
            return fail(wrong);
        }
        return give(Rows.mostOnRound(fen, tin));
    }

    public int roundAt(int tin, int k) {
        int wrong = tinStatus(tin);
        if (wrong != 0) {
            return fail(wrong);
        }
        int who = Rows.onRound(fen, tin, k);
        return who < 0 ? fail(THERE_IS_NONE) : give(who);
    }

    // ---- givings

    public int most(int tins) {
        int wrong = heapStatus(tins);
        return wrong != 0 ? fail(wrong) : give(gifts.mostOf(fen, tins));
    }

    public int givings(int tins) {
        int wrong = heapStatus(tins);
        return wrong != 0 ? fail(wrong) : give(gifts.waysOf(fen, tins));
    }

    public int given(int tins, int tin) {
        if (noTin(tin)) {
            return fail(NO_SUCH);
        }
        if (((tins >> tin) & 1) == 0) {
            return fail(BAD_NUMBER);
        }
        int wrong = heapStatus(tins);
        if (wrong != 0) {
            return fail(wrong);
        }
        int who = gifts.firstGiving(fen, tins, tin);
        return who < 0 ? fail(THERE_IS_NONE) : give(who);
    }

    public int cover() {
        int set = Givings.leastCover(fen);
        return set < 0 ? fail(THERE_IS_NONE) : give(Integer.bitCount(set));
    }

    public int coverSet() {
        int set = Givings.leastCover(fen);
        return set < 0 ? fail(THERE_IS_NONE) : give(set);
    }

    public int blamed() {
        return give(Integer.bitCount(Givings.leastBlamed(fen)));
    }

    public int blamedSet() {
        return give(Givings.leastBlamed(fen));
    }

    public int wheels(int n) {
        if (n < 2 || n > MAX_PEOPLE) {
            return fail(BAD_NUMBER);
        }
        return give(rows.countWheels(fen, n));
    }

    // ---- what was seen

    public int whose(int tray, int n) {
        int wrong = seenStatus(tray, n);
        return wrong != 0 ? fail(wrong) : give(seen.howMany());
    }

    public int sure(int tray, int n) {
        int wrong = seenStatus(tray, n);
        if (wrong != 0) {
            return fail(wrong);
        }
        return seen.howMany() == 0 ? fail(THERE_IS_NONE) : give(seen.inAll());
    }

    public int ask(int tray, int n) {
        int wrong = seenStatus(tray, n);
        if (wrong != 0) {
            return fail(wrong);
        }
        int who = seen.howMany() < 2 ? NONE : seen.bestToAsk(fen);
        return who < 0 ? fail(THERE_IS_NONE) : give(who);
    }

    // ---- games, odds

    public int game(int person, int other, int turns) {
        int wrong = gameStatus(person, other, turns);
        return wrong != 0 ? fail(wrong) : give(play.settle(fen, person, other, turns));
    }

    public int moveOf(int person, int other, int turns, int what) {
        int wrong = gameStatus(person, other, turns);
        if (wrong != 0) {
            return fail(wrong);
        }
        if (turns == 0 || what < 0 || what > 1) {
            return fail(BAD_NUMBER);
        }
        play.settle(fen, person, other, turns);
        if (play.moveTin < 0) {
            return fail(THERE_IS_NONE);
        }
        return give(what == 0 ? play.moveTin : play.movePerson);
    }

    public boolean bites(int person, int k) {
        if (noPerson(person)) {
            return refuse(NO_SUCH);
        }
        if (k < 0 || k > MAX_TINS) {
            return refuse(BAD_NUMBER);
        }
        int lead = Integer.bitCount(fen.wornBy(person) & fen.lead);
        return tellFraction(bitesTop(lead, k), 1L << (4 * lead));
    }

    public boolean share(int person) {
        if (noPerson(person)) {
            return refuse(NO_SUCH);
        }
        int all = fen.worthOfAll();
        if (all == 0) {
            return refuse(THERE_IS_NONE);
        }
        return tellFraction(fen.worthOf(fen.wornBy(person)), all);
    }

    // ---- YEARS

    public int live(int seed) {
        if (seed < 0 || seed > MAX_SEED) {
            return fail(BAD_NUMBER);
        }
        if (!fen.years.there) {
            return fail(THERE_IS_NONE);
        }
        life.run(fen, seed);
        return give(life.steps);
    }

    public int lived(int what) {
        if (what < 0 || what > 4) {
            return fail(BAD_NUMBER);
        }
        if (!life.there) {
            return fail(THERE_IS_NONE);
        }
        switch (what) {
            case 0:
                return give(life.missed);
            case 1:
                return give(life.passes);
            case 2:
                return give(life.found);
            case 3:
                return give(life.gained);
            default:
                return give(life.left);
        }
    }

    public boolean mean(int seed, int many) {
        boolean badMany = many < 1 || many > MAX_SEEDS;
        if (badMany || seed < 0 || seed > MAX_SEED || seed + many - 1 > MAX_SEED) {
            return refuse(BAD_NUMBER);
        }
        if (!fen.years.there) {
            return refuse(THERE_IS_NONE);
        }
        long all = 0;
        for (int i = 0; i < many; i++) {
            trial.copyFrom(fen);
            trialLife.run(trial, seed + i);
            all += trial.gotByAll();
        }
        return tellFraction(all, many);
    }

    // ---- MARKS

    public int mark() {
        if (marked >= MAX_MARKS) {
            return fail(TOO_MANY);
        }
        marks[marked].copyFrom(fen);
        marked++;
        return give(marked);
    }

    public int back() {
        if (marked < 1) {
            return fail(THERE_IS_NONE);
        }
        marked--;
        fen.copyFrom(marks[marked]);
        return give(marked);
    }

    // ---- STATUS

    private int fail(int wrong) {
        status = wrong;
        return NONE;
    }

    private int give(int answer) {
        status = 0;
        return answer;
    }

    private boolean refuse(int wrong) {
        status = wrong;
        return false;
    }

    private boolean agree() {
        status = 0;
        return true;
    }

    private static boolean noTray(int tray) {
        return tray < 0 || tray >= MAX_TRAYS;
    }

    private boolean noTrait(int trait) {
        return trait < 0 || trait >= fen.traits;
    }

    private boolean noPerson(int person) {
        return person < 0 || person >= fen.people;
    }

    private boolean noTin(int tin) {
        return tin < 0 || tin >= fen.tins;
    }

    private int trayStatus(int tray) {
        if (noTray(tray)) {
            return NO_TRAY;
        }
        return trays[tray].there ? 0 : MISSING;
    }

    private int placeStatus(int tray, int place) {
        int wrong = trayStatus(tray);
        if (wrong != 0) {
            return wrong;
        }
        return trays[tray].hasRun(place, 1) ? 0 : NO_PLACE;
    }

    private int tinStatus(int tin) {
        if (noTin(tin)) {
            return NO_SUCH;
        }
        return fen.isGone(tin) ? CANT_BE : 0;
    }

    private int wayStatus(int tin, int person) {
        return noPerson(person) ? NO_SUCH : tinStatus(tin);
    }

    private int heapStatus(int tins) {
        if (tins < 0 || (tins >> fen.tins) != 0) {
            return BAD_NUMBER;
        }
        return (tins & fen.wornBy(NONE)) != 0 ? CANT_BE : 0;
    }

    private int seenStatus(int tray, int n) {
        int wrong = trayStatus(tray);
        if (wrong != 0) {
            return wrong;
        }
        if (2L * n > trays[tray].length) {
            return NO_PLACE;
        }
        return seen.look(fen, trays[tray], n) ? 0 : BAD_NUMBER;
    }

    private int gameStatus(int person, int other, int turns) {
        if (noPerson(person) || noPerson(other)) {
            return NO_SUCH;
        }
        return person == other || turns < 0 || turns > MAX_TURNS ? BAD_NUMBER : 0;
    }

    private void putBytes(int four) {
        for (int shift = 24; shift >= 0; shift -= 8) {
            tape[fed] = (byte) (four >> shift);
            fed++;
        }
    }

    /** Of all 16 to the power of 'lead' draws, those that find k or more. */
    private long bitesTop(int lead, int k) {
        long sum = 0;
        long chosen = 1;
        for (int j = 0; j <= lead; j++) {
            if (j >= k) {
                sum += chosen * power(fen.odds, j) * power(MAX_ODDS - fen.odds, lead - j);
            }
            chosen = chosen * (lead - j) / (j + 1);
        }
        return sum;
    }

    private static long power(int base, int times) {
        long product = 1;
        for (int i = 0; i < times; i++) {
            product *= base;
        }
        return product;
    }

    /** Both are 0 or more, the lower one is above 0. */
    private boolean tellFraction(long over, long under) {
        long a = over;
        long b = under;
        for (int i = 0; i < 100 && a != 0; i++) {
            long rest = b % a;
            b = a;
            a = rest;
        }
        long divisor = b > 0 ? b : 1;
        top = over / divisor;
        bottom = under / divisor;
        return agree();
    }

    /** A row of numbers; the cells stay the same array, so that laying a TRAY makes nothing. */
    private static final class Tray {
        static final int LAST_SORT = 3;

        boolean there;
        int sort;
        int length;
        final long[] cells = new long[MAX_CELLS];

        void lay(int newSort, int newLength) {
            there = true;
            sort = newSort;
            length = newLength;
            Arrays.fill(cells, 0L);
        }

        boolean hasRun(int place, int many) {
            return place >= 0 && (long) place + many <= length;
        }

        void put(int place, long v) {
            switch (sort) {
                case 0:
                    cells[place] = (byte) v;
                    break;
                case 1:
                    cells[place] = (short) v;
                    break;
                case 2:
                    cells[place] = (int) v;
                    break;
                default:
                    cells[place] = v;
                    break;
            }
        }
    }

    /** The FEN with all that became of it, and the YEARS: just what a MARK keeps. Sets are bits. */
    private static final class Fen {
        int odds = USUAL_ODDS;
        int traits;
        int people;
        int lanes;
        int tins;
        int passes;
        int lead;
        int found;
        final int[] worth = new int[MAX_TRAITS];
        final int[] truths = new int[MAX_PEOPLE];
        final int[] meets = new int[MAX_PEOPLE];
        final int[] got = new int[MAX_PEOPLE];
        final int[] traitOf = new int[MAX_TINS];
        final int[] holder = new int[MAX_TINS];
        final int[] held = new int[MAX_TINS];
        final int[] passed = new int[MAX_TINS];
        final long[] traitNames = new long[MAX_TRAITS];
        final long[] personNames = new long[MAX_PEOPLE];
        final long[] tinNames = new long[MAX_TINS];
        final Years years = new Years();

        void clear() {
            odds = USUAL_ODDS;
            traits = 0;
            people = 0;
            lanes = 0;
            tins = 0;
            passes = 0;
            lead = 0;
            found = 0;
            years.clear();
        }

        void copyFrom(Fen other) {
            odds = other.odds;
            traits = other.traits;
            people = other.people;
            lanes = other.lanes;
            tins = other.tins;
            passes = other.passes;
            lead = other.lead;
            found = other.found;
            System.arraycopy(other.worth, 0, worth, 0, MAX_TRAITS);
            System.arraycopy(other.truths, 0, truths, 0, MAX_PEOPLE);
            System.arraycopy(other.meets, 0, meets, 0, MAX_PEOPLE);
            System.arraycopy(other.got, 0, got, 0, MAX_PEOPLE);
            System.arraycopy(other.traitOf, 0, traitOf, 0, MAX_TINS);
            System.arraycopy(other.holder, 0, holder, 0, MAX_TINS);
            System.arraycopy(other.held, 0, held, 0, MAX_TINS);
            System.arraycopy(other.passed, 0, passed, 0, MAX_TINS);
            System.arraycopy(other.traitNames, 0, traitNames, 0, MAX_TRAITS);
            System.arraycopy(other.personNames, 0, personNames, 0, MAX_PEOPLE);
            System.arraycopy(other.tinNames, 0, tinNames, 0, MAX_TINS);
            years.copyFrom(other.years);
        }

        void addTrait(long name, int itsWorth) {
            traitNames[traits] = name;
            worth[traits] = itsWorth;
            traits++;
        }

        void addPerson(long name, int itsTruths) {
            personNames[people] = name;
            truths[people] = itsTruths;
            meets[people] = 0;
            got[people] = 0;
            people++;
        }

        void addLane(int one, int other) {
            meets[one] |= 1 << other;
            meets[other] |= 1 << one;
            lanes++;
        }

        void addTin(long name, int trait, int person, boolean isOfLead) {
            tinNames[tins] = name;
            traitOf[tins] = trait;
            holder[tins] = person;
            held[tins] = 1 << person;
            passed[tins] = 0;
            if (isOfLead) {
                lead |= 1 << tins;
            }
            tins++;
        }

        boolean isTrue(int person, int trait) {
            return ((truths[person] >> trait) & 1) != 0;
        }

        void turn(int person, int trait) {
            truths[person] ^= 1 << trait;
        }

        boolean isGone(int tin) {
            return holder[tin] < 0;
        }

        boolean isLead(int tin) {
            return ((lead >> tin) & 1) != 0;
        }

        /** The set of TINS ON a PERSON; those that are GONE for NONE. */
        int wornBy(int person) {
            int set = 0;
            for (int i = 0; i < tins; i++) {
                if (holder[i] == person) {
                    set |= 1 << i;
                }
            }
            return set;
        }

        int worthOf(int set) {
            int sum = 0;
            for (int i = 0; i < tins; i++) {
                if (((set >> i) & 1) != 0) {
                    sum += worth[traitOf[i]];
                }
            }
            return sum;
        }

        int worthOfAll() {
            return worthOf(~wornBy(NONE));
        }

        int gotByAll() {
            int sum = 0;
            for (int i = 0; i < people; i++) {
                sum += got[i];
            }
            return sum;
        }

        /** The set of PEOPLE of whom the TRAIT of a TIN is TRUE. */
        int believersIn(int tin) {
            int set = 0;
            for (int i = 0; i < people; i++) {
                if (isTrue(i, traitOf[tin])) {
                    set |= 1 << i;
                }
            }
            return set;
        }

        int takers(int tin) {
            return isGone(tin) ? 0 : meets[holder[tin]] & believersIn(tin);
        }

        boolean canHand(int tin, int person) {
            return !isGone(tin) && ((meets[holder[tin]] >> person) & 1) != 0 && isTrue(person, traitOf[tin]);
        }

        /** PASS, of which canHand() has said that it can be. */
        void hand(int tin, int person) {
            got[holder[tin]] += worth[traitOf[tin]];
            passes++;
            passed[tin]++;
            putOn(tin, person);
        }

        void putOn(int tin, int person) {
            holder[tin] = person;
            held[tin] |= 1 << person;
        }

        void find(int tin) {
            found |= 1 << tin;
            holder[tin] = NONE;
        }
    }

    /**
     * STEPS and ends in a row, each by the number of its WORD; a when by that of its test's WORD, or by its
     * sign behind got. By 'link' a when and a loop know their end, and an end its beginning.
     */
    private static final class Years {
        static final int MAX_STEPS = 30;
        static final int MAX_OPS = 2 * MAX_STEPS;

        boolean there;
        int steps;
        int size;
        final int[] op = new int[MAX_OPS];
        final int[] first = new int[MAX_OPS];
        final int[] second = new int[MAX_OPS];
        final int[] link = new int[MAX_OPS];

        void clear() {
            there = false;
            steps = 0;
            size = 0;
        }

        void copyFrom(Years other) {
            there = other.there;
            steps = other.steps;
            size = other.size;
            System.arraycopy(other.op, 0, op, 0, size);
            System.arraycopy(other.first, 0, first, 0, size);
            System.arraycopy(other.second, 0, second, 0, size);
            System.arraycopy(other.link, 0, link, 0, size);
        }

        void addStep(int kind, int a, int b) {
            addOp(kind, a, b);
            steps++;
        }

        void addEnd(int opening) {
            link[opening] = size;
            link[size] = opening;
            addOp(Tokens.END, 0, 0);
        }

        private void addOp(int kind, int a, int b) {
            op[size] = kind;
            first[size] = a;
            second[size] = b;
            size++;
        }
    }

    /** The TOKENS of a text, one at a time, and the first FAULT that its reader meets. */
    private static final class Tokens {
        static final int TEXT_END = 0;
        static final int WORD = 1;
        static final int NUMBER = 2;
        static final int SIGN = 3;
        static final int NO_TOKEN = 4;
        static final long NO_NAME = 0;
        static final int MAX_LETTERS = 8;
        static final int MAX_DIGITS = 4;

        static final int ODDS = 0;
        static final int TRAIT = 1;
        static final int WORTH = 2;
        static final int PERSON = 3;
        static final int IS = 4;
        static final int LANE = 5;
        static final int TIN = 6;
        static final int OF = 7;
        static final int ON = 8;
        static final int LEAD = 9;
        static final int PASS = 10;
        static final int BITE = 11;
        static final int LEARN = 12;
        static final int LOSE = 13;
        static final int ANY = 14;
        static final int WHEN = 15;
        static final int GOT = 16;
        static final int GONE = 17;
        static final int LOOP = 18;
        static final int END = 19;
        static final int STOP = 20;
        static final int KEYWORDS = 21;
        /** In the order of the numbers above, a blank behind each. */
        static final String SPELLED =
            "odds trait worth person is lane tin of on lead pass bite learn lose any when got gone loop end stop ";

        private byte[] text = new byte[0];
        private int length;
        private int at;
        private final long[] keywords = new long[KEYWORDS];

        int kind;
        int start;
        long word;
        int keyword;
        int number;
        int sign;
        int faultKind = TinFen.NONE;
        int faultPlace = TinFen.NONE;

        Tokens() {
            byte[] spelled = new byte[SPELLED.length()];
            for (int i = 0; i < spelled.length; i++) {
                spelled[i] = (byte) SPELLED.charAt(i);
            }
            open(spelled, spelled.length);
            for (int i = 0; i < KEYWORDS; i++) {
                keywords[i] = word;
                advance();
            }
            faultKind = TinFen.NONE;
        }

        void open(byte[] newText, int newLength) {
            text = newText;
            length = Math.min(newLength, newText.length);
            at = 0;
            faultKind = 0;
            faultPlace = TinFen.NONE;
            advance();
        }

        void advance() {
            while (at < length && (text[at] == 10 || text[at] == 32)) {
                at++;
            }
            start = at;
            word = NO_NAME;
            keyword = TinFen.NONE;
            number = 0;
            sign = 0;
            if (at >= length) {
                kind = TEXT_END;
            } else if (text[at] >= 'a' && text[at] <= 'z') {
                scanWord();
            } else if (text[at] >= '0' && text[at] <= '9') {
                scanNumber();
            } else {
                scanSign();
            }
        }

        private void scanWord() {
            long code = NO_NAME;
            while (at < length && text[at] >= 'a' && text[at] <= 'z') {
                // five bits a letter: up to 8 letters make unlike numbers, none of them NO_NAME
                code = code * 32 + (text[at] - 'a' + 1);
                at++;
            }
            kind = WORD;
            if (at - start > MAX_LETTERS) {
                return;
            }
            word = code;
            for (int i = 0; i < KEYWORDS; i++) {
                if (keywords[i] == code) {
                    keyword = i;
                }
            }
        }

        private void scanNumber() {
            while (at < length && text[at] >= '0' && text[at] <= '9') {
                if (at - start < MAX_DIGITS) {
                    number = number * 10 + text[at] - '0';
                }
                at++;
            }
            kind = at - start > MAX_DIGITS ? NO_TOKEN : NUMBER;
        }

        private void scanSign() {
            int c = text[at];
            boolean isSign = c == ';' || c == '<' || c == '>' || c == '=';
            kind = isSign ? SIGN : NO_TOKEN;
            sign = isSign ? c : 0;
            at++;
        }

        boolean isName() {
            return kind == WORD && word != NO_NAME && keyword == TinFen.NONE;
        }

        /** A FAULT at this TOKEN; false, so that a reader can end with it. */
        boolean faulty(int what) {
            faultKind = what;
            faultPlace = start;
            return false;
        }

        boolean misplaced() {
            faultKind = kind == NO_TOKEN ? 1 : 2;
            faultPlace = start;
            return false;
        }

        boolean takeWord(int wanted) {
            if (keyword != wanted) {
                return misplaced();
            }
            advance();
            return true;
        }

        boolean takeSemicolon() {
            if (sign != ';') {
                return misplaced();
            }
            advance();
            return true;
        }

        /** The NUMBER that stands here and is one of these, or NONE with a FAULT. */
        int takeNumber(int least, int most) {
            if (kind != NUMBER) {
                misplaced();
                return TinFen.NONE;
            }
            if (number < least || number > most) {
                faulty(4);
                return TinFen.NONE;
            }
            int taken = number;
            advance();
            return taken;
        }

        /** Which of these NAMES stands here, or NONE with a FAULT; it is not gone past yet. */
        int known(long[] names, int many) {
            if (!isName()) {
                misplaced();
                return TinFen.NONE;
            }
            int which = indexOf(word, names, many);
            if (which < 0) {
                faulty(3);
            }
            return which;
        }

        int takeKnown(long[] names, int many) {
            int which = known(names, many);
            if (which >= 0) {
                advance();
            }
            return which;
        }

        static int indexOf(long name, long[] names, int many) {
            for (int i = 0; i < many && i < names.length; i++) {
                if (names[i] == name) {
                    return i;
                }
            }
            return TinFen.NONE;
        }
    }

    /** Reads a FEN; each method ends with false as soon as a FAULT is told. */
    private static final class FenReader {
        private final Tokens tokens;
        private boolean oddsTold;

        FenReader(Tokens theTokens) {
            tokens = theTokens;
        }

        boolean readInto(Fen f, byte[] text, int length) {
            f.clear();
            oddsTold = false;
            tokens.open(text, length);
            for (int i = 0; i < MAX_TAPE && tokens.kind != Tokens.TEXT_END; i++) {
                if (!readPart(f)) {
                    return false;
                }
            }
            return true;
        }

        private boolean readPart(Fen f) {
            switch (tokens.keyword) {
                case Tokens.ODDS:
                    return readOdds(f);
                case Tokens.TRAIT:
                    return readTrait(f);
                case Tokens.PERSON:
                    return readPerson(f);
                case Tokens.LANE:
                    return readLane(f);
                case Tokens.TIN:
                    return readTin(f);
                default:
                    return tokens.misplaced();
            }
        }

        private boolean readOdds(Fen f) {
            if (oddsTold) {
                return tokens.faulty(5);
            }
            oddsTold = true;
            tokens.advance();
            int odds = tokens.takeNumber(0, MAX_ODDS);
            if (odds < 0) {
                return false;
            }
            f.odds = odds;
            return tokens.takeSemicolon();
        }

        private boolean readTrait(Fen f) {
            if (f.traits >= MAX_TRAITS) {
                return tokens.faulty(6);
            }
            tokens.advance();
            long name = takeNewName(f);
            if (name == Tokens.NO_NAME || !tokens.takeWord(Tokens.WORTH)) {
                return false;
            }
            int worth = tokens.takeNumber(0, MAX_WORTH);
            if (worth < 0 || !tokens.takeSemicolon()) {
                return false;
            }
            f.addTrait(name, worth);
            return true;
        }

        private boolean readPerson(Fen f) {
            if (f.people >= MAX_PEOPLE) {
                return tokens.faulty(6);
            }
            tokens.advance();
            long name = takeNewName(f);
            if (name == Tokens.NO_NAME) {
                return false;
            }
            int truths = 0;
            if (tokens.keyword == Tokens.IS) {
                tokens.advance();
                truths = takeTruths(f);
            }
            if (truths < 0 || !tokens.takeSemicolon()) {
                return false;
            }
            f.addPerson(name, truths);
            return true;
        }

        private int takeTruths(Fen f) {
            int truths = 0;
            // one NAME more than there can be TRAITS is a FAULT already
            for (int i = 0; i <= MAX_TRAITS && tokens.isName(); i++) {
                int trait = tokens.known(f.traitNames, f.traits);
                if (trait < 0) {
                    return NONE;
                }
                if (((truths >> trait) & 1) != 0) {
                    tokens.faulty(5);
                    return NONE;
                }
                truths |= 1 << trait;
                tokens.advance();
            }
            return truths;
        }

        private boolean readLane(Fen f) {
            if (f.lanes >= MAX_LANES) {
                return tokens.faulty(6);
            }
            tokens.advance();
            int one = tokens.takeKnown(f.personNames, f.people);
            if (one < 0) {
                return false;
            }
            int other = tokens.known(f.personNames, f.people);
            if (other < 0) {
                return false;
            }
            if (other == one) {
                return tokens.faulty(5);
            }
            tokens.advance();
            if (!tokens.takeSemicolon()) {
                return false;
            }
            f.addLane(one, other);
            return true;
        }

        private boolean readTin(Fen f) {
            if (f.tins >= MAX_TINS) {
                return tokens.faulty(6);
            }
            tokens.advance();
            long name = takeNewName(f);
            if (name == Tokens.NO_NAME || !tokens.takeWord(Tokens.OF)) {
                return false;
            }
            int trait = tokens.takeKnown(f.traitNames, f.traits);
            if (trait < 0 || !tokens.takeWord(Tokens.ON)) {
                return false;
            }
            int person = tokens.takeKnown(f.personNames, f.people);
            if (person < 0) {
                return false;
            }
            boolean lead = tokens.keyword == Tokens.LEAD;
            if (lead) {
                tokens.advance();
            }
            if (!tokens.takeSemicolon()) {
                return false;
            }
            f.addTin(name, trait, person, lead);
            return true;
        }

        /** The NAME that stands here and is of nothing yet, or NO_NAME with a FAULT. */
        private long takeNewName(Fen f) {
            if (!tokens.isName()) {
                tokens.misplaced();
                return Tokens.NO_NAME;
            }
            long name = tokens.word;
            boolean taken = Tokens.indexOf(name, f.traitNames, f.traits) >= 0
                || Tokens.indexOf(name, f.personNames, f.people) >= 0
                || Tokens.indexOf(name, f.tinNames, f.tins) >= 0;
            if (taken) {
                tokens.faulty(3);
                return Tokens.NO_NAME;
            }
            tokens.advance();
            return name;
        }
    }

    /** Reads YEARS; each method ends with false as soon as a FAULT is told. */
    private static final class YearsReader {
        private static final int MAX_DEPTH = 3;
        private static final int MAX_LOOP = 99;
        private static final int MAX_GOT = 9999;

        private final Tokens tokens;
        private final int[] opened = new int[MAX_DEPTH];
        private int depth;

        YearsReader(Tokens theTokens) {
            tokens = theTokens;
        }

        boolean readInto(Years y, Fen f, byte[] text, int length) {
            y.clear();
            y.there = true;
            depth = 0;
            tokens.open(text, length);
            for (int i = 0; i < MAX_YEARS_TEXT && tokens.kind != Tokens.TEXT_END; i++) {
                boolean isEnd = tokens.keyword == Tokens.END;
                if (isEnd ? !readEnd(y) : !mayBegin(y) || !readStep(y, f)) {
                    return false;
                }
            }
            return depth == 0 || tokens.misplaced();
        }

        private boolean readEnd(Years y) {
            if (depth < 1) {
                return tokens.misplaced();
            }
            tokens.advance();
            if (!tokens.takeSemicolon()) {
                return false;
            }
            depth--;
            y.addEnd(opened[depth]);
            return true;
        }

        /** Whether a STEP can stand here by its WORD alone. */
        private boolean mayBegin(Years y) {
            int word = tokens.keyword;
            boolean opens = word == Tokens.WHEN || word == Tokens.LOOP;
            if (!opens && word != Tokens.STOP && (word < Tokens.PASS || word > Tokens.ANY)) {
                return tokens.misplaced();
            }
            if (y.steps >= Years.MAX_STEPS) {
                return tokens.faulty(6);
            }
            return !opens || depth < MAX_DEPTH || tokens.faulty(7);
        }

        private boolean readStep(Years y, Fen f) {
            int op = tokens.keyword;
            if (op == Tokens.WHEN || op == Tokens.LOOP) {
                opened[depth] = y.size;
                depth++;
            }
            tokens.advance();
            if (op == Tokens.WHEN) {
                op = tokens.keyword;
                if (op != Tokens.ON && op != Tokens.GOT && op != Tokens.GONE) {
                    return tokens.misplaced();
                }
                tokens.advance();
            }
            int first = takeFirst(f, op);
            if (first < 0) {
                return false;
            }
            if (op == Tokens.GOT) {
                op = tokens.sign;
                if (op != '<' && op != '>' && op != '=') {
                    return tokens.misplaced();
                }
                tokens.advance();
            }
            int second = takeSecond(f, op);
            if (second < 0) {
                return false;
            }
            y.addStep(op, first, second);
            return tokens.takeSemicolon();
        }

        /** What stands behind the WORD, 0 if nothing has to, or NONE with a FAULT. */
        private int takeFirst(Fen f, int op) {
            switch (op) {
                case Tokens.PASS:
                case Tokens.BITE:
                case Tokens.ON:
                case Tokens.GONE:
                    return tokens.takeKnown(f.tinNames, f.tins);
                case Tokens.LEARN:
                case Tokens.LOSE:
                case Tokens.GOT:
                    return tokens.takeKnown(f.personNames, f.people);
                case Tokens.LOOP:
                    return tokens.takeNumber(1, MAX_LOOP);
                default:
                    return 0;
            }
        }

        private int takeSecond(Fen f, int op) {
            switch (op) {
                case Tokens.PASS:
                case Tokens.ON:
                    return tokens.takeKnown(f.personNames, f.people);
                case Tokens.LEARN:
                case Tokens.LOSE:
                    return tokens.takeKnown(f.traitNames, f.traits);
                case '<':
                case '>':
                case '=':
                    return tokens.takeNumber(0, MAX_GOT);
                default:
                    return 0;
            }
        }
    }

    /** One run through the YEARS of a FEN, and what it counted. */
    private static final class Life {
        private static final int MAX_DONE = 300;
        /** An empty loop makes up to 99 turns without a STEP; this is far above 300 of these. */
        private static final int MAX_OPS_DONE = 1000000;

        boolean there;
        int steps;
        int missed;
        int passes;
        int found;
        int gained;
        int left;
        private int drawn;
        private int at;
        private final int[] turnsLeft = new int[Years.MAX_OPS];

        void run(Fen f, int seed) {
            there = true;
            steps = 0;
            missed = 0;
            left = 0;
            drawn = seed;
            at = 0;
            int passesAhead = f.passes;
            int foundAhead = f.found;
            int gotAhead = f.gotByAll();
            for (int i = 0; i < MAX_OPS_DONE && at >= 0 && at < f.years.size; i++) {
                if (f.years.op[at] == Tokens.END) {
                    doEnd(f.years);
                } else if (steps >= MAX_DONE) {
                    left = 1;
                    at = f.years.size;
                } else {
                    steps++;
                    doStep(f);
                }
            }
            passes = f.passes - passesAhead;
            found = Integer.bitCount(f.found & ~foundAhead);
            gained = f.gotByAll() - gotAhead;
        }

        private void doEnd(Years y) {
            int opening = y.link[at];
            if (y.op[opening] == Tokens.LOOP) {
                turnsLeft[opening]--;
                if (turnsLeft[opening] > 0) {
                    at = opening;
                }
            }
            at++;
        }

        private void doStep(Fen f) {
            Years y = f.years;
            int a = y.first[at];
            int b = y.second[at];
            switch (y.op[at]) {
                case Tokens.PASS:
                    doPass(f, a, b);
                    break;
                case Tokens.BITE:
                    doBite(f, a);
                    break;
                case Tokens.LEARN:
                    doTurn(f, a, b, true);
                    break;
                case Tokens.LOSE:
                    doTurn(f, a, b, false);
                    break;
                case Tokens.ANY:
                    doAny(f);
                    break;
                case Tokens.STOP:
                    at = y.size;
                    break;
                case Tokens.LOOP:
                    turnsLeft[at] = a;
                    break;
                default:
                    if (!holds(f, y.op[at], a, b)) {
                        at = y.link[at];
                    }
                    break;
            }
            at++;
        }

        private void doPass(Fen f, int tin, int person) {
            if (f.canHand(tin, person)) {
                f.hand(tin, person);
            } else {
                missed++;
            }
        }

        private void doBite(Fen f, int tin) {
            if (!f.isGone(tin) && f.isLead(tin) && draw(MAX_ODDS) < f.odds) {
                f.find(tin);
            } else {
                missed++;
            }
        }

        private void doTurn(Fen f, int person, int trait, boolean is) {
            if (f.isTrue(person, trait) == is) {
                missed++;
            } else {
                f.turn(person, trait);
            }
        }

        private void doAny(Fen f) {
            if (f.tins < 1 || f.people < 1) {
                missed++;
                return;
            }
            int tin = draw(f.tins);
            int person = draw(f.people);
            doPass(f, tin, person);
        }

        private static boolean holds(Fen f, int test, int a, int b) {
            switch (test) {
                case Tokens.ON:
                    return f.holder[a] == b;
                case Tokens.GONE:
                    return f.isGone(a);
                case '<':
                    return f.got[a] < b;
                case '>':
                    return f.got[a] > b;
                default:
                    return f.got[a] == b;
            }
        }

        /** n is above 0. */
        private int draw(int n) {
            drawn = (drawn * 2971 + 10891) % 65536;
            return drawn / 8 % Math.max(n, 1);
        }
    }

    /** Rows of PEOPLE by PASSES: WAYS, ROUNDS, WHEELS. */
    private static final class Rows {
        private final int[] gives = new int[MAX_PEOPLE];

        /** The fewest PASSES from one to another by those who may take it, or NONE. */
        static int distance(Fen f, int from, int to, int takers) {
            int reached = 1 << from;
            for (int far = 0; far < MAX_PEOPLE; far++) {
                if (((reached >> to) & 1) != 0) {
                    return far;
                }
                reached |= neighbours(f, reached) & takers;
            }
            return NONE;
        }

        static int reached(Fen f, int tin) {
            int takers = f.believersIn(tin);
            int reached = 1 << f.holder[tin];
            for (int i = 0; i < MAX_PEOPLE; i++) {
                reached |= neighbours(f, reached) & takers;
            }
            return reached;
        }

        private static int neighbours(Fen f, int set) {
            int all = 0;
            for (int i = 0; i < f.people; i++) {
                if (((set >> i) & 1) != 0) {
                    all |= f.meets[i];
                }
            }
            return all;
        }

        /** Who has the TIN behind k PASSES of the WAY, or NONE. */
        static int onWay(Fen f, int tin, int person, int k) {
            int takers = f.believersIn(tin);
            int who = f.holder[tin];
            int far = distance(f, who, person, takers);
            if (k < 0 || k > far) {
                return NONE;
            }
            for (int i = 1; i <= k && who >= 0; i++) {
                who = firstAtDistance(f, who, person, takers, far - i);
            }
            return who;
        }

        private static int firstAtDistance(Fen f, int who, int person, int takers, int far) {
            for (int i = 0; i < f.people; i++) {
                boolean next = (((f.meets[who] & takers) >> i) & 1) != 0;
                if (next && distance(f, i, person, takers) == far) {
                    return i;
                }
            }
            return NONE;
        }

        static int mostOnRound(Fen f, int tin) {
            int start = f.holder[tin];
            return longest(f, start, 1 << start, f.believersIn(tin));
        }

        /** The most PEOPLE on one row from 'who' on, himself too; 'seen' grows by one a level. */
        private static int longest(Fen f, int who, int seen, int takers) {
            if (Integer.bitCount(seen) >= f.people) {
                return 1;
            }
            int most = 0;
            int open = f.meets[who] & takers & ~seen;
            for (int i = 0; i < f.people; i++) {
                if (((open >> i) & 1) != 0) {
                    most = Math.max(most, longest(f, i, seen | 1 << i, takers));
                }
            }
            return most + 1;
        }

        /** Who has the TIN behind k PASSES of the ROUND, or NONE. */
        static int onRound(Fen f, int tin, int k) {
            int takers = f.believersIn(tin);
            int who = f.holder[tin];
            int seen = 1 << who;
            int most = longest(f, who, seen, takers);
            if (k < 0 || k >= most) {
                return NONE;
            }
            for (int i = 1; i <= k && who >= 0; i++) {
                who = firstWithRow(f, who, seen, takers, most - i);
                seen |= who < 0 ? 0 : 1 << who;
            }
            return who;
        }

        private static int firstWithRow(Fen f, int who, int seen, int takers, int wanted) {
            int open = f.meets[who] & takers & ~seen;
            for (int i = 0; i < f.people; i++) {
                if (((open >> i) & 1) != 0 && longest(f, i, seen | 1 << i, takers) == wanted) {
                    return i;
                }
            }
            return NONE;
        }

        int countWheels(Fen f, int n) {
            Arrays.fill(gives, 0);
            for (int i = 0; i < f.tins; i++) {
                if (!f.isGone(i)) {
                    gives[f.holder[i]] |= f.takers(i);
                }
            }
            int wheels = 0;
            for (int i = 0; i < f.people; i++) {
                // those below the front can't stand in the row: they count as seen
                wheels += wheelsOn(gives, i, i, (2 << i) - 1, n - 1);
            }
            return wheels;
        }

        /** The ways to put so many more on a row that ends with 'last' and to close it. */
        private static int wheelsOn(int[] toWhom, int front, int last, int seen, int more) {
            if (more <= 0) {
                return (toWhom[last] >> front) & 1;
            }
            int sum = 0;
            int open = toWhom[last] & ~seen;
            for (int i = 0; i < MAX_PEOPLE; i++) {
                if (((open >> i) & 1) != 0) {
                    sum += wheelsOn(toWhom, front, i, seen | 1 << i, more - 1);
                }
            }
            return sum;
        }
    }

    /** Whom all TINS of a set can be GIVEN to, and the least sets that COVER or are BLAMED. */
    private static final class Givings {
        private static final int GROUPS = 1 << MAX_PEOPLE;

        /** For the TINS from one on: what can be done for each set of PEOPLE who have theirs. */
        private final int[][] table = new int[MAX_TINS + 1][GROUPS];

        int mostOf(Fen f, int set) {
            fill(f, set, false);
            return table[0][0];
        }

        int waysOf(Fen f, int set) {
            fill(f, set, true);
            return table[0][0];
        }

        /** To whom a TIN of the set goes in the FIRST GIVING, or NONE. */
        int firstGiving(Fen f, int set, int tin) {
            fill(f, set, true);
            if (table[0][0] == 0) {
                return NONE;
            }
            int served = 0;
            int who = NONE;
            for (int i = 0; i <= tin; i++) {
                if (((set >> i) & 1) != 0) {
                    who = firstServed(f, i, served);
                    served |= who < 0 ? 0 : 1 << who;
                }
            }
            return who;
        }

        private int firstServed(Fen f, int tin, int served) {
            int open = f.believersIn(tin) & ~served;
            for (int i = 0; i < f.people; i++) {
                if (((open >> i) & 1) != 0 && table[tin + 1][served | 1 << i] > 0) {
                    return i;
                }
            }
            return NONE;
        }

        /** Counts the ways to give all, or else the most that can be given. */
        private void fill(Fen f, int set, boolean all) {
            int groups = 1 << f.people;
            Arrays.fill(table[f.tins], all ? 1 : 0);
            for (int tin = f.tins - 1; tin >= 0; tin--) {
                boolean isIn = ((set >> tin) & 1) != 0;
                int takers = isIn ? f.believersIn(tin) : 0;
                for (int served = 0; served < groups; served++) {
                    if (!isIn) {
                        table[tin][served] = table[tin + 1][served];
                    } else if (all) {
                        table[tin][served] = sumOver(table[tin + 1], served, takers & ~served);
                    } else {
                        table[tin][served] = bestOver(table[tin + 1], served, takers & ~served);
                    }
                }
            }
        }

        private static int sumOver(int[] later, int served, int open) {
            int sum = 0;
            for (int i = 0; i < MAX_PEOPLE; i++) {
                if (((open >> i) & 1) != 0) {
                    sum += later[served | 1 << i];
                }
            }
            return sum;
        }

        private static int bestOver(int[] later, int served, int open) {
            int best = later[served];
            for (int i = 0; i < MAX_PEOPLE; i++) {
                if (((open >> i) & 1) != 0) {
                    best = Math.max(best, 1 + later[served | 1 << i]);
                }
            }
            return best;
        }

        /** The COVER, or NONE. */
        static int leastCover(Fen f) {
            int least = NONE;
            for (int set = 0; set < 1 << f.traits; set++) {
                boolean fewer = least < 0 || Integer.bitCount(set) < Integer.bitCount(least);
                if (fewer && meetsEach(set, f.truths, f.people, ~0)) {
                    least = set;
                }
            }
            return least;
        }

        static int leastBlamed(Fen f) {
            int least = (1 << f.people) - 1;
            for (int set = 0; set < 1 << f.people; set++) {
                boolean fewer = Integer.bitCount(set) < Integer.bitCount(least);
                if (fewer && meetsEach(set, f.held, f.tins, f.found)) {
                    least = set;
                }
            }
            return least;
        }

        /** Whether a set has one in common with each of these sets whose number is in 'which'. */
        private static boolean meetsEach(int set, int[] sets, int many, int which) {
            for (int i = 0; i < many; i++) {
                if (((which >> i) & 1) != 0 && (sets[i] & set) == 0) {
                    return false;
                }
            }
            return true;
        }
    }

    /** Which sets of TRAITS are so by what was seen: a bit each, 64 at the most. */
    private static final class Seen {
        private long fitting;
        private int sets;
        private int told;
        private final int[] groups = new int[MAX_TRAITS + 1];

        /** The TRAY has n twos; false if one of their numbers, or n, can't be. */
        boolean look(Fen f, Tray tray, int n) {
            if (n < 0 || n > MAX_PEOPLE || !twosCanBe(f, tray, n)) {
                return false;
            }
            sets = 1 << f.traits;
            fitting = 0;
            for (int set = 0; set < sets; set++) {
                if (isSo(f, tray, n, set)) {
                    fitting |= 1L << set;
                }
            }
            return true;
        }

        private boolean twosCanBe(Fen f, Tray tray, int n) {
            told = 0;
            for (int i = 0; i < n; i++) {
                long person = tray.cells[2 * i];
                long number = tray.cells[2 * i + 1];
                if (person < 0 || person >= f.people || number < 0 || number > MAX_TRAITS) {
                    return false;
                }
                if (((told >> (int) person) & 1) != 0) {
                    return false;
                }
                told |= 1 << (int) person;
            }
            return true;
        }

        private static boolean isSo(Fen f, Tray tray, int n, int set) {
            for (int i = 0; i < n; i++) {
                int person = (int) tray.cells[2 * i];
                if (Integer.bitCount(f.truths[person] & set) != tray.cells[2 * i + 1]) {
                    return false;
                }
            }
            return true;
        }

        int howMany() {
            return Long.bitCount(fitting);
        }

        int inAll() {
            int common = sets - 1;
            for (int set = 0; set < sets; set++) {
                if (((fitting >> set) & 1) != 0) {
                    common &= set;
                }
            }
            return common;
        }

        /** The ASK, or NONE if nobody is left. */
        int bestToAsk(Fen f) {
            int best = NONE;
            int fewest = 0;
            for (int i = 0; i < f.people; i++) {
                if (((told >> i) & 1) == 0) {
                    int most = mostWithOneNumber(f.truths[i]);
                    if (best < 0 || most < fewest) {
                        best = i;
                        fewest = most;
                    }
                }
            }
            return best;
        }

        private int mostWithOneNumber(int truths) {
            Arrays.fill(groups, 0);
            int most = 0;
            for (int set = 0; set < sets; set++) {
                if (((fitting >> set) & 1) != 0) {
                    int number = Integer.bitCount(truths & set);
                    groups[number]++;
                    most = Math.max(most, groups[number]);
                }
            }
            return most;
        }
    }

    /** A GAME of two, played on a row of its own, so that the FEN stays as it is. */
    private static final class Game {
        int moveTin;
        int movePerson;
        private final int[] where = new int[MAX_TINS];
        private final int[] takers = new int[MAX_TINS];
        private final int[] gain = new int[MAX_TINS];
        private int tins;

        /** What the first gets more; the MOVE stays in moveTin (NONE: nothing), movePerson. */
        int settle(Fen f, int one, int other, int turns) {
            tins = f.tins;
            for (int i = 0; i < tins; i++) {
                where[i] = f.holder[i];
                takers[i] = f.believersIn(i);
                gain[i] = f.worth[f.traitOf[i]];
            }
            moveTin = NONE;
            movePerson = NONE;
            if (turns < 1) {
                return 0;
            }
            int best = 0;
            for (int tin = 0; tin < tins; tin++) {
                int open = where[tin] == one ? f.meets[one] & takers[tin] : 0;
                for (int i = 0; i < f.people; i++) {
                    if (((open >> i) & 1) != 0) {
                        int value = afterMove(f, tin, i, other, turns);
                        if (moveTin < 0 || value > best) {
                            best = value;
                            moveTin = tin;
                            movePerson = i;
                        }
                    }
                }
            }
            int idle = -bestFor(f, other, one, turns - 1);
            if (moveTin < 0 || idle > best) {
                best = idle;
                moveTin = NONE;
                movePerson = NONE;
            }
            return best;
        }

        /** What he who has the TIN gets more if he PASSES it in the first of these turns. */
        private int afterMove(Fen f, int tin, int person, int other, int turns) {
            int mover = where[tin];
            where[tin] = person;
            int value = gain[tin] - bestFor(f, other, mover, turns - 1);
            where[tin] = mover;
            return value;
        }

        private int bestFor(Fen f, int mover, int other, int turns) {
            if (turns < 1) {
                return 0;
            }
            int best = -bestFor(f, other, mover, turns - 1);
            for (int tin = 0; tin < tins; tin++) {
                int open = where[tin] == mover ? f.meets[mover] & takers[tin] : 0;
                if (turns == 1 && open != 0) {
                    // in the last turn it is all the same to whom the TIN goes
                    best = Math.max(best, gain[tin]);
                    open = 0;
                }
                for (int i = 0; open != 0 && i < f.people; i++) {
                    if (((open >> i) & 1) != 0) {
                        best = Math.max(best, afterMove(f, tin, i, other, turns));
                    }
                }
            }
            return best;
        }
    }
}
