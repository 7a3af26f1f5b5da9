import java.util.ArrayList;
import java.util.Arrays;
import java.util.NoSuchElementException;

/**
 * Feet of bridges in a river: minds (whole stories of a pier), the looks that put minds aside,
 * and what is sure by the minds that are kept. The words in capitals are those of the document.
 */
public final class RiverFeet {
    public static final int NONE = -1;

    private static final int DAYS = 400;
    private static final int MINDS = 64;
    private static final int DIFFERENT_A = 8;
    private static final int DIFFERENT_B = 8;
    private static final int DEEPEST = 200;
    private static final int MOST_FLOW = 99;
    private static final int MOST_ENTRIES = 60;
    private static final int MOST_BEDS = 4;
    private static final int MOST_PIERS = 8;
    private static final int MOST_WIDTH = 20;
    private static final int MOST_WIDER = 20;
    private static final int MOST_TREES = 20;
    private static final int MOST_LOOKS = 40;
    private static final int MOST_ERRS = 50;
    private static final int MOST_DAYS_PLANNED = 6;
    private static final int MOST_LOOKS_PLANNED = 3;
    private static final int MOST_STEPS = 64;
    private static final int MOST_BRIDGES = 4;
    private static final int MOST_DAYS_RUN = 60;
    private static final int MOST_OFFERS = 10;
    private static final int ALL_A = 255;
    private static final int STANDS = 0;
    private static final int HANGS = 1;
    private static final int FALLEN = 2;
    /** Above every share, and more piles than ten offers can give. */
    private static final int NEVER = 1001;
    private static final int DAYS_A_MARK = 40;
    private static final int MARKS = DAYS / DAYS_A_MARK;

    private final int[] flow = new int[DAYS];
    /** Of each pier the row of its stories (see Pier): large, so it is made here, not by the call that tells the pier. */
    private final int[][] stories = new int[MOST_PIERS][(1 + MARKS) * MINDS];
    private final ArrayList<Pier> piers = new ArrayList<>();
    private final ArrayList<Look> looks = new ArrayList<>();
    private final ArrayList<Bridge> bridges = new ArrayList<>();
    private final ArrayList<Offer> offers = new ArrayList<>();
    private final Numbers told = new Numbers();
    private final Steps steps = new Steps();
    private final Ahead ahead = new Ahead();
    private final Watch watch = new Watch();
    /** Of each bed (as bits, A less 1) the A for which each of its piers has a free mind. */
    private final int[] sharedA = new int[MOST_BEDS];
    private final int[] lacking = new int[MOST_PIERS];
    private final int[] gained = new int[MOST_PIERS];
    private int beds = 0;
    private int trees = 0;
    private int asDay = DAYS - 1;

    public RiverFeet() {
    }

    // ---- the river

    public int flows(int day, int kind, int n, int f, int step) {
        if (!isDay(day) || !within(kind, 0, 3) || n > MOST_ENTRIES) {
            return NONE;
        }
        if (kind == 3) {
            return -3;
        }
        if (n < 0) {
            return -2;
        }
        int entry = f;
        for (int i = 0; i < n && day + i < DAYS; i++) {
            flow[day + i] = Math.max(0, Math.min(MOST_FLOW, asSheetHolds(entry, kind)));
            entry += step;
        }
        if (n > 0) {
            forgetFrom(day);
        }
        return n;
    }

    private static int asSheetHolds(int entry, int kind) {
        if (kind == 0) {
            return (byte) entry;
        }
        return kind == 1 ? (short) entry : entry;
    }

    private void forgetFrom(int day) {
        for (int i = 0; i < piers.size(); i++) {
            piers.get(i).forgetFrom(day);
        }
        for (int i = 0; i < looks.size(); i++) {
            looks.get(i).forgetFrom(day);
        }
    }

    public int flow(int day) {
        return isDay(day) ? flow[day] : NONE;
    }

    public int bed() {
        if (beds >= MOST_BEDS) {
            return NONE;
        }
        beds++;
        return beds - 1;
    }

    public int pier(int bed, int width, int rock, int foot, int piles) {
        boolean right = within(bed, 0, beds - 1) && within(width, 1, MOST_WIDTH)
                && within(rock, 1, DEEPEST) && within(foot, 0, 99) && within(piles, 0, 99);
        int number = piers.size();
        if (!right || number >= MOST_PIERS) {
            return NONE;
        }
        piers.add(new Pier(bed, width, rock, foot, piles, flow, stories[number]));
        return number;
    }

    public int tree(int pier, int day, int wider) {
        Pier at = pierOf(pier);
        if (at == null || !isDay(day) || !within(wider, 1, MOST_WIDER) || trees >= MOST_TREES) {
            return NONE;
        }
        at.trees = new Tree(day, wider, at.trees);
        forgetFrom(day);
        trees++;
        return trees;
    }

    // ---- minds

    public int hole(int pier, int mind, int day, int what) {
        Pier at = pierOf(pier);
        if (at == null || !isMind(mind) || !isDay(day)) {
            return NONE;
        }
        at.goTo(day);
        switch (what) {
            case 0:
                return at.holeBy(mind);
            case 1:
                return at.everBy(mind);
            case 2:
                return at.goalBy(mind, day);
            case 3:
                return at.stateBy(mind);
            default:
                return NONE;
        }
    }

    public int when(int pier, int mind, int what) {
        Pier at = pierOf(pier);
        if (at == null || !isMind(mind) || !within(what, 0, 1)) {
            return NONE;
        }
        return at.firstDay(mind, what == 0 ? HANGS : FALLEN);
    }

    public int kept(int pier, int mind) {
        Pier at = pierOf(pier);
        if (at == null || !isMind(mind)) {
            return NONE;
        }
        findKept(asDay);
        if (!holds(at.free, mind)) {
            return 0;
        }
        return holds(at.kept, mind) ? 1 : 2;
    }

    public int minds(int pier) {
        Pier at = pierOf(pier);
        if (at == null) {
            return NONE;
        }
        findKept(asDay);
        told.clear();
        for (int mind = 0; mind < MINDS; mind++) {
            if (holds(at.kept, mind)) {
                told.put(mind);
            }
        }
        return Long.bitCount(at.kept);
    }

    public int shared(int bed) {
        if (!within(bed, 0, beds - 1)) {
            return NONE;
        }
        findKept(asDay);
        return sharedA[bed];
    }

    /**
     * Finds what each look bars, and what is free and kept of each pier by the looks known on a day.
     * Each call that asks for any of these does this first.
     */
    private void findKept(int onDay) {
        for (int i = 0; i < piers.size(); i++) {
            piers.get(i).free = -1L;
        }
        for (int i = 0; i < looks.size(); i++) {
            Look look = looks.get(i);
            look.freshen();
            if (look.isKnown(onDay)) {
                look.pier.free &= ~look.barred;
            }
        }
        Arrays.fill(sharedA, ALL_A);
        for (int i = 0; i < piers.size(); i++) {
            Pier pier = piers.get(i);
            sharedA[pier.bed] &= bitsOfA(pier.free);
        }
        for (int i = 0; i < piers.size(); i++) {
            Pier pier = piers.get(i);
            pier.kept = pier.free & mindsOfA(sharedA[pier.bed]);
        }
    }

    private static int bitsOfA(long minds) {
        int bits = 0;
        for (int a = 0; a < DIFFERENT_A; a++) {
            if ((minds >>> (DIFFERENT_B * a) & 255L) != 0) {
                bits |= 1 << a;
            }
        }
        return bits;
    }

    private static long mindsOfA(int bits) {
        long minds = 0;
        for (int a = 0; a < DIFFERENT_A; a++) {
            if ((bits >> a & 1) != 0) {
                minds |= 255L << (DIFFERENT_B * a);
            }
        }
        return minds;
    }

    // ---- looks

    public int look(int pier, int day, int seen, int errs, int known) {
        Pier at = pierOf(pier);
        boolean right = at != null && isDay(day) && within(seen, 0, DEEPEST)
                && within(errs, 0, MOST_ERRS) && isDay(known) && known >= day;
        if (!right || looks.size() >= MOST_LOOKS) {
            return NONE;
        }
        looks.add(new Look(at, day, seen, errs, known));
        return looks.size() - 1;
    }

    public boolean back(int look, int day) {
        Look which = lookOf(look);
        if (which == null || !isDay(day)) {
            return false;
        }
        which.backFrom = day;
        return true;
    }

    public int as(int day) {
        if (!isDay(day)) {
            return NONE;
        }
        int was = asDay;
        asDay = day;
        return was;
    }

    public int bars(int look) {
        Look which = lookOf(look);
        if (which == null) {
            return NONE;
        }
        which.freshen();
        return Long.bitCount(which.barred);
    }

    public int weighs(int look) {
        Look which = lookOf(look);
        if (which == null || !which.isKnown(asDay)) {
            return NONE;
        }
        findKept(asDay);
        long barredByOthers = 0;
        for (int i = 0; i < looks.size(); i++) {
            Look other = looks.get(i);
            if (other != which && other.pier == which.pier && other.isKnown(asDay)) {
                barredByOthers |= other.barred;
            }
        }
        return Long.bitCount(which.barred & ~barredByOthers);
    }

    public int blame(int pier) {
        Pier at = pierOf(pier);
        if (at == null) {
            return NONE;
        }
        findKept(asDay);
        int fewest = MOST_LOOKS + 1;
        int first = 0;
        for (int mind = 0; mind < MINDS; mind++) {
            int barring = howManyBar(at, mind);
            if (barring < fewest) {
                fewest = barring;
                first = mind;
            }
        }
        told.clear();
        told.put(first);
        for (int i = 0; i < looks.size(); i++) {
            if (looks.get(i).barsKnown(at, first, asDay)) {
                told.put(i);
            }
        }
        return fewest;
    }

    private int howManyBar(Pier at, int mind) {
        int many = 0;
        for (int i = 0; i < looks.size(); i++) {
            if (looks.get(i).barsKnown(at, mind, asDay)) {
                many++;
            }
        }
        return many;
    }

    // ---- what is sure

    public int state(int pier, int day) {
        Pier at = pierOf(pier);
        if (at == null || !isDay(day)) {
            return NONE;
        }
        findKept(asDay);
        if (at.kept == 0) {
            return 4;
        }
        for (int state = STANDS; state <= FALLEN; state++) {
            if (at.mindsInState(day, state) == at.kept) {
                return state;
            }
        }
        return 3;
    }

    public int ends(int pier, int day) {
        Pier at = pierOf(pier);
        if (at == null || !isDay(day)) {
            return NONE;
        }
        findKept(asDay);
        if (at.kept == 0) {
            return NONE;
        }
        tellEnds(at, day);
        return Long.bitCount(at.kept);
    }

    private void tellEnds(Pier at, int day) {
        at.goTo(day);
        int leastHole = DEEPEST;
        int greatestHole = 0;
        int leastEver = DEEPEST;
        int greatestEver = 0;
        for (int mind = 0; mind < MINDS; mind++) {
            if (holds(at.kept, mind)) {
                leastHole = Math.min(leastHole, at.holeBy(mind));
                greatestHole = Math.max(greatestHole, at.holeBy(mind));
                leastEver = Math.min(leastEver, at.everBy(mind));
                greatestEver = Math.max(greatestEver, at.everBy(mind));
            }
        }
        told.clear();
        told.put(leastHole);
        told.put(greatestHole);
        told.put(leastEver);
        told.put(greatestEver);
    }

    public int share(int pier, int day, int question) {
        Pier at = pierOf(pier);
        if (at == null || !isDay(day) || !within(question, 0, 1)) {
            return NONE;
        }
        findKept(asDay);
        int many = Long.bitCount(at.kept);
        return many == 0 ? NONE : 1000 * Long.bitCount(at.mindsThatSayYes(day, question)) / many;
    }

    // ---- looks to come

    public int worst(int pier, int day, int errs) {
        Pier at = pierOf(pier);
        if (at == null || !isDay(day) || !within(errs, 0, MOST_ERRS)) {
            return NONE;
        }
        findKept(asDay);
        return at.kept == 0 ? NONE : ahead.mostLeft(at, day, errs);
    }

    public int next(int pier, int from, int to, int errs) {
        Pier at = pierOf(pier);
        if (at == null || !isDay(from) || !isDay(to) || to < from || !within(errs, 0, MOST_ERRS)) {
            return NONE;
        }
        findKept(asDay);
        if (at.kept == 0) {
            return NONE;
        }
        int least = MINDS + 1;
        int first = from;
        for (int day = from; day <= to && least > 1; day++) {
            int most = ahead.mostLeft(at, day, errs);
            if (most < least) {
                least = most;
                first = day;
            }
        }
        told.clear();
        told.put(least);
        return first;
    }

    public int plan(int pier, int from, int by, int many, int k, int errs) {
        Pier at = pierOf(pier);
        if (at == null || !isRowOfDays(from, by, many) || !within(k, 1, MOST_LOOKS_PLANNED)
                || !within(errs, 0, MOST_ERRS)) {
            return NONE;
        }
        findKept(asDay);
        if (at.kept == 0) {
            return NONE;
        }
        prepareAhead(at, from, by, many, errs);
        int least = ahead.planFrom(at.kept, k);
        told.clear();
        told.put(ahead.firstSlot == NONE ? NONE : from + by * ahead.firstSlot);
        return least;
    }

    public int settles(int pier, int question, int day, int from, int by, int many, int errs) {
        Pier at = pierOf(pier);
        if (at == null || !within(question, 0, 1) || !isDay(day) || !isRowOfDays(from, by, many)
                || !within(errs, 0, MOST_ERRS)) {
            return NONE;
        }
        findKept(asDay);
        if (at.kept == 0) {
            return NONE;
        }
        prepareAhead(at, from, by, many, errs);
        return ahead.fewestToSettle(at.kept, at.mindsThatSayYes(day, question));
    }

    private static boolean isRowOfDays(int from, int by, int many) {
        return isDay(from) && within(by, 1, 50) && within(many, 1, MOST_DAYS_PLANNED)
                && isDay(from + by * (many - 1));
    }

    private void prepareAhead(Pier pier, int from, int by, int many, int errs) {
        ahead.clear();
        for (int i = 0; i < many; i++) {
            ahead.addDay(pier, from + by * i, errs);
        }
    }

    // ---- proofs

    public int prove(int mind, int look) {
        if (!isMind(mind) || !within(look, 0, MOST_LOOKS - 1) || steps.many >= MOST_STEPS) {
            return NONE;
        }
        steps.add(mind, look);
        return steps.many;
    }

    public int check(int pier) {
        int many = steps.many;
        steps.clear();
        Pier at = pierOf(pier);
        if (at == null) {
            return -100;
        }
        findKept(asDay);
        long proved = 0;
        for (int i = 0; i < many; i++) {
            int mind = steps.mind[i];
            Look look = lookOf(steps.look[i]);
            if (look == null || !look.barsKnown(at, mind, asDay) || holds(proved, mind)) {
                return -1 - i;
            }
            proved |= 1L << mind;
        }
        return (proved | at.free) == -1L ? 0 : 1;
    }

    public int lay(int pier) {
        Pier at = pierOf(pier);
        if (at == null) {
            return NONE;
        }
        findKept(asDay);
        steps.clear();
        for (int mind = 0; mind < MINDS; mind++) {
            int look = firstThatBars(at, mind);
            if (look != NONE) {
                steps.add(mind, look);
            }
        }
        return steps.many;
    }

    private int firstThatBars(Pier at, int mind) {
        for (int i = 0; i < looks.size(); i++) {
            if (looks.get(i).barsKnown(at, mind, asDay)) {
                return i;
            }
        }
        return NONE;
    }

    public int proof(int i, int what) {
        if (!within(i, 0, steps.many - 1) || !within(what, 0, 1)) {
            return NONE;
        }
        return what == 0 ? steps.mind[i] : steps.look[i];
    }

    // ---- bridges

    public int bridge(int piers, int traffic) {
        boolean right = within(piers, 1, (1 << this.piers.size()) - 1) && within(traffic, 0, 999);
        if (!right || bridges.size() >= MOST_BRIDGES) {
            return NONE;
        }
        bridges.add(new Bridge(piers, traffic));
        return bridges.size() - 1;
    }

    public int truth(int pier, int mind) {
        Pier at = pierOf(pier);
        if (at == null || !isMind(mind)) {
            return NONE;
        }
        int was = at.trueMind;
        at.trueMind = mind;
        return was;
    }

    public int shut(int bridge, int day, int p) {
        Bridge over = bridgeOf(bridge);
        if (over == null || !isDay(day) || !within(p, 0, 1000)) {
            return NONE;
        }
        findKept(day);
        return p < openFrom(over, day) ? 1 : 0;
    }

    public int run(int bridge, int from, int to, int p) {
        Bridge over = bridgeOf(bridge);
        if (over == null || !isRun(from, to) || !within(p, 0, 1000)) {
            return NONE;
        }
        watchDays(over, from, to);
        int shutDays = watch.shutDays(p);
        told.clear();
        told.put(watch.lateDays(p));
        told.put(watch.falseDays(p));
        told.put(over.traffic * shutDays);
        return shutDays;
    }

    public int best(int bridge, int from, int to, int weight) {
        Bridge over = bridgeOf(bridge);
        if (over == null || !isRun(from, to) || !within(weight, 0, 9999)) {
            return NONE;
        }
        watchDays(over, from, to);
        int bestShare = 0;
        int least = 0;
        for (int p = 0; p <= 1000; p += 100) {
            int sum = over.traffic * watch.shutDays(p) + weight * watch.lateDays(p);
            if (p == 0 || sum <= least) {
                least = sum;
                bestShare = p;
            }
        }
        told.clear();
        told.put(least);
        return bestShare;
    }

    private static boolean isRun(int from, int to) {
        return isDay(from) && isDay(to) && from <= to && to - from < MOST_DAYS_RUN;
    }

    private void watchDays(Bridge bridge, int from, int to) {
        watch.clear();
        for (int day = from; day <= to; day++) {
            findKept(day);
            watch.addDay(openFrom(bridge, day), worstByTruth(bridge, day));
        }
    }

    /** The least share by which a bridge is open as a day ends; NEVER where a pier quarrels. */
    private int openFrom(Bridge bridge, int day) {
        int least = 0;
        for (int i = 0; i < piers.size(); i++) {
            if (bridge.has(i)) {
                least = Math.max(least, pierOpenFrom(piers.get(i), day));
            }
        }
        return least;
    }

    private static int pierOpenFrom(Pier pier, int day) {
        int many = Long.bitCount(pier.kept);
        if (many == 0) {
            return NEVER;
        }
        int notStanding = many - Long.bitCount(pier.mindsInState(day, STANDS));
        return (1000 * notStanding + many - 1) / many;
    }

    private int worstByTruth(Bridge bridge, int day) {
        int worst = STANDS;
        for (int i = 0; i < piers.size(); i++) {
            if (bridge.has(i)) {
                Pier pier = piers.get(i);
                pier.goTo(day);
                worst = Math.max(worst, pier.stateBy(pier.trueMind));
            }
        }
        return worst;
    }

    // ---- works

    public int offer(int pier, int more, int cost) {
        if (pierOf(pier) == null || !within(more, 1, 99) || !within(cost, 1, 999)
                || offers.size() >= MOST_OFFERS) {
            return NONE;
        }
        offers.add(new Offer(pier, more, cost));
        return offers.size();
    }

    public int choose(int money, int day) {
        if (!within(money, 0, 9999) || !isDay(day)) {
            return NONE;
        }
        findLacking(day);
        int most = NONE;
        int leastCost = 0;
        int bits = 0;
        for (int set = 0; set < 1 << offers.size(); set++) {
            int cost = costOf(set);
            if (cost <= money) {
                int sure = sureWith(set);
                if (sure > most || sure == most && cost < leastCost) {
                    most = sure;
                    leastCost = cost;
                    bits = set;
                }
            }
        }
        told.clear();
        told.put(bits);
        told.put(leastCost);
        return most;
    }

    /** Of each pier how many piles more make it surely not fallen; NEVER where it quarrels. */
    private void findLacking(int day) {
        findKept(asDay);
        for (int i = 0; i < piers.size() && i < lacking.length; i++) {
            Pier pier = piers.get(i);
            lacking[i] = pier.kept == 0 ? NEVER : pier.greatestEver(day) - pier.foot - pier.piles;
        }
    }

    private int costOf(int set) {
        int cost = 0;
        for (int i = 0; i < offers.size(); i++) {
            if ((set >> i & 1) != 0) {
                cost += offers.get(i).cost;
            }
        }
        return cost;
    }

    private int sureWith(int set) {
        Arrays.fill(gained, 0);
        for (int i = 0; i < offers.size(); i++) {
            if ((set >> i & 1) != 0) {
                Offer offer = offers.get(i);
                gained[offer.pier] += offer.more;
            }
        }
        int sure = 0;
        for (int i = 0; i < piers.size() && i < lacking.length; i++) {
            if (gained[i] >= lacking[i]) {
                sure++;
            }
        }
        return sure;
    }

    public int count(int what) {
        switch (what) {
            case 0:
                return beds;
            case 1:
                return piers.size();
            case 2:
                return trees;
            case 3:
                return looks.size();
            case 4:
                return knownLooks();
            case 5:
                return asDay;
            case 6:
                return steps.many;
            case 7:
                return bridges.size();
            case 8:
                return offers.size();
            case 9:
                return told.many;
            case 10:
                return quarrelling();
            default:
                return NONE;
        }
    }

    private int knownLooks() {
        int many = 0;
        for (int i = 0; i < looks.size(); i++) {
            if (looks.get(i).isKnown(asDay)) {
                many++;
            }
        }
        return many;
    }

    private int quarrelling() {
        findKept(asDay);
        int many = 0;
        for (int i = 0; i < piers.size(); i++) {
            if (piers.get(i).kept == 0) {
                many++;
            }
        }
        return many;
    }

    public int row(int i) throws NoSuchElementException {
        if (!within(i, 0, told.many - 1)) {
            throw new NoSuchElementException("no such number of the row");
        }
        return told.number[i];
    }

    // ---- what there is

    private static boolean within(int n, int least, int most) {
        return n >= least && n <= most;
    }

    private static boolean isDay(int day) {
        return within(day, 0, DAYS - 1);
    }

    private static boolean isMind(int mind) {
        return within(mind, 0, MINDS - 1);
    }

    private static boolean holds(long minds, int mind) {
        return (minds >>> mind & 1L) != 0;
    }

    private Pier pierOf(int n) {
        return within(n, 0, piers.size() - 1) ? piers.get(n) : null;
    }

    private Look lookOf(int n) {
        return within(n, 0, looks.size() - 1) ? looks.get(n) : null;
    }

    private Bridge bridgeOf(int n) {
        return within(n, 0, bridges.size() - 1) ? bridges.get(n) : null;
    }

    /**
     * A pier, with the stories of its minds: how each is as the last day walked ends, and marks, each
     * DAYS_A_MARK days behind the one before, of how it was then, from which no day is far.
     */
    private static final class Pier {
        final int bed;
        final int width;
        final int rock;
        final int foot;
        final int piles;
        final int[] flow;
        /** Of each mind 256 times EVER, and HOLE: as it is now, then as it was at mark 1, 2, .. */
        final int[] story;
        int daysWalked = 0;
        int marks = 0;
        Tree trees = null;
        int trueMind = 0;
        /** As the last findKept found them. */
        long free = 0;
        long kept = 0;

        Pier(int bed, int width, int rock, int foot, int piles, int[] flow, int[] story) {
            this.bed = bed;
            this.width = width;
            this.rock = rock;
            this.foot = foot;
            this.piles = piles;
            this.flow = flow;
            this.story = story;
        }

        void forgetFrom(int day) {
            marks = Math.min(marks, day / DAYS_A_MARK);
            if (daysWalked > day) {
                backTo(marks);
            }
        }

        /** So that holeBy, everBy and stateBy tell how it is as a day ends. */
        void goTo(int day) {
            int mark = Math.min(marks, (day + 1) / DAYS_A_MARK);
            if (daysWalked > day + 1 || daysWalked < mark * DAYS_A_MARK) {
                backTo(mark);
            }
            for (int next = daysWalked; next <= day; next++) {
                walk(next);
            }
        }

        /** Mark 0 is nowhere told: it is how each story begins. */
        private void backTo(int mark) {
            for (int mind = 0; mind < MINDS; mind++) {
                story[mind] = mark > 0 ? story[mark * MINDS + mind] : 0;
            }
            daysWalked = mark * DAYS_A_MARK;
        }

        private void walk(int day) {
            int wide = wideOn(day);
            for (int first = 0; first < MINDS; first += DIFFERENT_B) {
                int goal = goalWith(wide, first, day);
                for (int b = 0; b < DIFFERENT_B; b++) {
                    story[first + b] = behindDay(story[first + b], goal, b);
                }
            }
            daysWalked = day + 1;
            if (marks < MARKS && daysWalked == (marks + 1) * DAYS_A_MARK) {
                putMark();
            }
        }

        private void putMark() {
            marks++;
            for (int mind = 0; mind < MINDS; mind++) {
                story[marks * MINDS + mind] = story[mind];
            }
        }

        private static int behindDay(int before, int goal, int b) {
            int hole = before & 255;
            int ever = before >> 8;
            if (goal > hole) {
                hole += (goal - hole + 1) / 2;
            } else {
                hole -= (hole - goal) * b / 8;
            }
            return (hole > ever ? hole : ever) << 8 | hole;
        }

        int goalBy(int mind, int day) {
            return goalWith(wideOn(day), mind, day);
        }

        private int wideOn(int day) {
            int wide = width;
            for (Tree tree = trees; tree != null; tree = tree.before) {
                wide += tree.from <= day ? tree.wider : 0;
            }
            return wide;
        }

        private int goalWith(int wide, int mind, int day) {
            int a = mind / DIFFERENT_B + 1;
            int goal = a * flow[day] * wide / 100;
            return goal < rock ? goal : rock;
        }

        int holeBy(int mind) {
            return story[mind] & 255;
        }

        int everBy(int mind) {
            return story[mind] >> 8;
        }

        int stateBy(int mind) {
            return stateWith(everBy(mind));
        }

        private int stateWith(int ever) {
            if (ever <= foot) {
                return STANDS;
            }
            return ever <= foot + piles ? HANGS : FALLEN;
        }

        /** The first day as which ends its state by a mind is so bad; NONE: never. One mind alone is walked for it. */
        int firstDay(int mind, int state) {
            int now = 0;
            for (int day = 0; day < DAYS; day++) {
                now = behindDay(now, goalBy(mind, day), mind % DIFFERENT_B);
                if (stateWith(now >> 8) >= state) {
                    return day;
                }
            }
            return NONE;
        }

        int greatestEver(int day) {
            goTo(day);
            int greatest = 0;
            for (int mind = 0; mind < MINDS; mind++) {
                if (holds(kept, mind)) {
                    greatest = Math.max(greatest, everBy(mind));
                }
            }
            return greatest;
        }

        /** Of the minds kept. */
        long mindsInState(int day, int state) {
            goTo(day);
            long found = 0;
            for (int mind = 0; mind < MINDS; mind++) {
                if (holds(kept, mind) && stateBy(mind) == state) {
                    found |= 1L << mind;
                }
            }
            return found;
        }

        long mindsThatSayYes(int day, int question) {
            return mindsInState(day, question == 0 ? STANDS : FALLEN);
        }
    }

    /** Trees at a pier, and those told of it before. */
    private static final class Tree {
        final int from;
        final int wider;
        final Tree before;

        Tree(int from, int wider, Tree before) {
            this.from = from;
            this.wider = wider;
            this.before = before;
        }
    }

    /** A look; which minds it bars is right while fresh: until flows or trees change what it looked at. */
    private static final class Look {
        final Pier pier;
        final int day;
        final int seen;
        final int errs;
        final int known;
        int backFrom = DAYS;
        boolean fresh = false;
        long barred = 0;

        Look(Pier pier, int day, int seen, int errs, int known) {
            this.pier = pier;
            this.day = day;
            this.seen = seen;
            this.errs = errs;
            this.known = known;
        }

        boolean isKnown(int onDay) {
            return known <= onDay && onDay < backFrom;
        }

        boolean barsKnown(Pier at, int mind, int onDay) {
            return pier == at && isKnown(onDay) && holds(barred, mind);
        }

        void forgetFrom(int changed) {
            if (day >= changed) {
                fresh = false;
            }
        }

        void freshen() {
            if (fresh) {
                return;
            }
            pier.goTo(day);
            barred = 0;
            for (int mind = 0; mind < MINDS; mind++) {
                if (Math.abs(pier.holeBy(mind) - seen) > errs) {
                    barred |= 1L << mind;
                }
            }
            fresh = true;
        }
    }

    /**
     * Looks to come at a pier. Each day of the row is a slot; each different hole that minds have on it
     * is a sight, with the minds that have it and the minds that it leaves.
     */
    private static final class Ahead {
        final long[] having = new long[MOST_DAYS_PLANNED * MINDS];
        final long[] leaving = new long[MOST_DAYS_PLANNED * MINDS];
        final int[] sights = new int[MOST_DAYS_PLANNED];
        /** At h: the minds whose hole is h; notAbove at h + 1: those whose hole is not above h. */
        final long[] withHole = new long[DEEPEST + 1];
        final long[] notAbove = new long[DEEPEST + 2];
        int slots = 0;
        int firstSlot = NONE;

        void clear() {
            slots = 0;
        }

        void addDay(Pier pier, int day, int errs) {
            if (slots >= MOST_DAYS_PLANNED) {
                return;
            }
            sortByHole(pier, day);
            int many = 0;
            for (int hole = 0; hole <= DEEPEST && many < MINDS; hole++) {
                if (withHole[hole] != 0) {
                    int last = Math.min(DEEPEST, hole + errs);
                    int first = Math.max(0, hole - errs);
                    having[slots * MINDS + many] = withHole[hole];
                    leaving[slots * MINDS + many] = notAbove[last + 1] & ~notAbove[first];
                    many++;
                }
            }
            sights[slots] = many;
            slots++;
        }

        private void sortByHole(Pier pier, int day) {
            pier.goTo(day);
            Arrays.fill(withHole, 0L);
            for (int mind = 0; mind < MINDS; mind++) {
                if (holds(pier.kept, mind)) {
                    withHole[pier.holeBy(mind)] |= 1L << mind;
                }
            }
            for (int hole = 0; hole <= DEEPEST; hole++) {
                notAbove[hole + 1] = notAbove[hole] | withHole[hole];
            }
        }

        int mostLeft(Pier pier, int day, int errs) {
            clear();
            addDay(pier, day, errs);
            int most = 0;
            for (int i = 0; i < sights[0]; i++) {
                most = Math.max(most, Long.bitCount(leaving[i]));
            }
            return most;
        }

        /** The worst of the best plan; firstSlot becomes where it begins. */
        int planFrom(long minds, int looks) {
            int least = Long.bitCount(minds);
            firstSlot = NONE;
            for (int slot = 0; slot < slots && least > 1; slot++) {
                int worst = worstBehind(minds, slot, looks, 1, least);
                if (worst < least) {
                    least = worst;
                    firstSlot = slot;
                }
            }
            return least;
        }

        /**
         * The worst of the best plan from a slot on. What is not above floor may be told as floor,
         * and what is not below enough as enough: neither changes what the caller chooses.
         */
        private int leastWorst(long minds, int from, int looks, int floor, int enough) {
            int least = Math.min(enough, Long.bitCount(minds));
            if (looks <= 0) {
                return least;
            }
            for (int slot = from; slot < slots && least > floor; slot++) {
                least = Math.min(least, worstBehind(minds, slot, looks, floor, least));
            }
            return least;
        }

        private int worstBehind(long minds, int slot, int looks, int floor, int enough) {
            int worst = floor;
            long before = 0;
            for (int i = slot * MINDS; i < slot * MINDS + sights[slot] && worst < enough; i++) {
                long left = (minds & having[i]) == 0 ? 0 : minds & leaving[i];
                // fewer minds are never worse, so what lies within the sight before needs no look
                if ((left & ~before) != 0) {
                    worst = Math.max(worst, leastWorst(left, slot + 1, looks - 1, worst, enough));
                    before = left;
                }
            }
            return worst;
        }

        /** How many looks do, whatever is seen; -2: three do not. */
        int fewestToSettle(long minds, long yes) {
            for (int looks = 0; looks <= MOST_LOOKS_PLANNED; looks++) {
                if (canSettle(minds, yes, 0, looks)) {
                    return looks;
                }
            }
            return -2;
        }

        private boolean canSettle(long minds, long yes, int from, int looks) {
            if ((minds & yes) == 0 || (minds & ~yes) == 0) {
                return true;
            }
            if (looks <= 0) {
                return false;
            }
            for (int slot = from; slot < slots; slot++) {
                if (settlesBehind(minds, yes, slot, looks)) {
                    return true;
                }
            }
            return false;
        }

        private boolean settlesBehind(long minds, long yes, int slot, int looks) {
            long before = 0;
            for (int i = slot * MINDS; i < slot * MINDS + sights[slot]; i++) {
                long left = (minds & having[i]) == 0 ? 0 : minds & leaving[i];
                if ((left & ~before) != 0) {
                    if (!canSettle(left, yes, slot + 1, looks - 1)) {
                        return false;
                    }
                    before = left;
                }
            }
            return true;
        }
    }

    /** Days of a bridge: from which share on each is open, and how the worst of its piers is by truth. */
    private static final class Watch {
        final int[] opens = new int[MOST_DAYS_RUN];
        final int[] worst = new int[MOST_DAYS_RUN];
        int days = 0;

        void clear() {
            days = 0;
        }

        void addDay(int openFrom, int worstByTruth) {
            if (days < MOST_DAYS_RUN) {
                opens[days] = openFrom;
                worst[days] = worstByTruth;
                days++;
            }
        }

        int shutDays(int p) {
            int many = 0;
            for (int i = 0; i < days; i++) {
                if (p < opens[i]) {
                    many++;
                }
            }
            return many;
        }

        int lateDays(int p) {
            int many = 0;
            for (int i = 0; i < days; i++) {
                if (p >= opens[i] && worst[i] == FALLEN) {
                    many++;
                }
            }
            return many;
        }

        int falseDays(int p) {
            int many = 0;
            for (int i = 0; i < days; i++) {
                if (p < opens[i] && worst[i] == STANDS) {
                    many++;
                }
            }
            return many;
        }
    }

    private static final class Bridge {
        final int piers;
        final int traffic;

        Bridge(int piers, int traffic) {
            this.piers = piers;
            this.traffic = traffic;
        }

        boolean has(int pier) {
            return (piers >> pier & 1) != 0;
        }
    }

    private static final class Offer {
        final int pier;
        final int more;
        final int cost;

        Offer(int pier, int more, int cost) {
            this.pier = pier;
            this.more = more;
            this.cost = cost;
        }
    }

    /** The steps of the proof. */
    private static final class Steps {
        final int[] mind = new int[MOST_STEPS];
        final int[] look = new int[MOST_STEPS];
        int many = 0;

        void clear() {
            many = 0;
        }

        void add(int aMind, int aLook) {
            if (many < MOST_STEPS) {
                mind[many] = aMind;
                look[many] = aLook;
                many++;
            }
        }
    }

    /** The row: the longest one told is that of all minds. */
    private static final class Numbers {
        final int[] number = new int[MINDS];
        int many = 0;

        void clear() {
            many = 0;
        }

        void put(int n) {
            if (many < MINDS) {
                number[many] = n;
                many++;
            }
        }
    }
}
