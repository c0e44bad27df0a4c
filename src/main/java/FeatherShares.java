import java.util.Arrays;

/**
 * Geese owned by the feather: what there is, what trades and weeks make of it, and what is best.
 *
 * What would be is always tried on a copy that was made in the constructor, so no call makes an object.
 */
public final class FeatherShares {
    public static final int BAD = -1, STATE = -2, FULL = -3, NONE = -4;

    private static final int MOST_GEESE = 3, OWNERS = 5, KINDS = 4;
    private static final int PLAIN = 0, MOULTER = 1, SWAN = 2, DRAKE = 3;
    private static final int LEAST_PRICE = 1, MOST_PRICE = 9;
    private static final int MOST_FEATHERS = 99, MOST_FEATHERS_OF_ALL = OWNERS * MOST_FEATHERS;
    private static final int MOST_MONEY = 999, FIRST_MONEY = 20, MOST_MONEY_TOLD = 99;
    private static final int MOST_TRADES = 6, LEAST_TRADED = 1, MOST_TRADED = 9, MOST_TRADES_IN_ROW = 2;
    private static final int MOST_WEEK = 999, MOST_WEEKS_GONE = 30, MOST_WEEKS_AHEAD = 60;
    private static final int MOST_WEEKS_BY_ODDS = 8, ODDS_OF = 10;
    private static final int MOST_SEEN = 6, MOST_WEEKS_SEEN = 20;
    private static final int MOST_DRIFTS = 60, IMAGES = 2;
    private static final int SHEETS = 4, MOST_CELLS = 40, CELLS_OF_TRADE = 4, MOST_TRADES_READ = 10;
    private static final int BYTES = 0, SHORTS = 1, INTS = 2;
    private static final int NO_FAULT = 0;
    private static final int FAULT_NULL = 1, FAULT_INDEX = 2, FAULT_CAST = 3, FAULT_SIZE = 4;
    private static final int FAULT_NO_TOKEN = 1, FAULT_PLACE = 2, FAULT_BOUNDS = 3;
    private static final int FAULT_TWICE = 4, FAULT_TOO_MANY = 5, FAULT_NO_GOOSE = 6;
    private static final int LINE_SHARE = 10, LINE_MONEY = 11, LINE_TRADE = 12;
    private static final int MOST_BYTES = 160, MOST_BYTE = 127;
    private static final int TOKEN_END = 0, TOKEN_NAME = 1, TOKEN_NUMBER = 2, TOKEN_SEMICOLON = 3, TOKEN_NONE = 4;

    private final Flock now = new Flock();
    private final Flock trial = new Flock();
    private final Flock[] images = new Flock[IMAGES];
    private int keptImages = 0;
    private final Tape tape = new Tape();
    private final TextReader reader = new TextReader();
    private final Sightings sightings = new Sightings();
    private final int[] laterByKind = new int[KINDS * (MOST_WEEKS_SEEN + 1) * OWNERS];
    private final RowSearch rowSearch = new RowSearch();
    private final Sheet[] sheets = new Sheet[SHEETS];
    private int faultOfRead = NO_FAULT;

    public FeatherShares() {
        for (int k = 0; k < IMAGES; k++) {
            images[k] = new Flock();
        }
        for (int k = 0; k < SHEETS; k++) {
            sheets[k] = new Sheet();
        }
    }

    // ---- the text, what there is

    public int feed(int c) {
        if (!isWithin(c, 0, MOST_BYTE)) {
            return BAD;
        }
        return tape.append(c) ? tape.length : FULL;
    }

    public int end(int n) {
        if (!isWithin(n, 0, tape.length)) {
            return BAD;
        }
        int had = tape.length;
        tape.length = n;
        return had;
    }

    public int text() {
        reader.readAll(tape);
        tape.length = 0;
        if (reader.faultFound != NO_FAULT) {
            return -10 - reader.faultPlace;
        }
        now.copyFrom(reader.draft);
        sightings.size = 0;
        keptImages = 0;
        return reader.lines;
    }

    public int fault() {
        return reader.faultFound;
    }

    public int rule(int what) {
        switch (what) {
            case 0: return now.geese;
            case 1: return now.week;
            case 2: return now.trades;
            case 3: return sumOf(now.money);
            case 4: return sumOf(now.eggsHad);
            case 5: return now.bareGeese();
            default: return BAD;
        }
    }

    public int goose(int g, int what) {
        if (!now.hasGoose(g)) {
            return BAD;
        }
        switch (what) {
            case 0: return now.kind[g];
            case 1: return now.skin[g];
            case 2: return now.price[g];
            case 3: return now.feathersOf(g);
            case 4: return now.eggOwner(g);
            default: return BAD;
        }
    }

    public int owner(int o, int what) {
        return isOwner(o) ? now.ofOwner(o, what) : BAD;
    }

    public int share(int g, int o) {
        return now.hasGoose(g) && isOwner(o) ? now.held(g, o) : BAD;
    }

    public int trade(int i, int what) {
        if (!isWithin(i, 0, now.trades - 1)) {
            return BAD;
        }
        switch (what) {
            case 0: return now.planBuyer[i];
            case 1: return now.planSeller[i];
            case 2: return now.planGoose[i];
            case 3: return now.planAmount[i];
            default: return BAD;
        }
    }

    // ---- what is changed

    public int alter(int g, int what, int v) {
        if (!now.hasGoose(g)) {
            return BAD;
        }
        switch (what) {
            case 0: return isWithin(v, 0, KINDS - 1) ? replaced(now.kind, g, v) : BAD;
            case 1: return isOwner(v) ? replaced(now.skin, g, v) : BAD;
            case 2: return isWithin(v, LEAST_PRICE, MOST_PRICE) ? replaced(now.price, g, v) : BAD;
            default: return BAD;
        }
    }

    public int purse(int o, int v) {
        return isOwner(o) && isWithin(v, 0, MOST_MONEY) ? replaced(now.money, o, v) : BAD;
    }

    public int grant(int g, int o, int v) {
        if (!now.hasGoose(g) || !isOwner(o) || !isWithin(v, 0, MOST_FEATHERS)) {
            return BAD;
        }
        return replaced(now.feathers, g * OWNERS + o, v);
    }

    public int plan(int b, int s, int g, int n) {
        if (!now.isTrade(b, s, g, n)) {
            return BAD;
        }
        return now.addToPlan(b, s, g, n) ? now.trades : FULL;
    }

    public int cut(int n) {
        if (!isWithin(n, 0, now.trades)) {
            return BAD;
        }
        int had = now.trades;
        now.trades = n;
        return had;
    }

    // ---- trades, weeks

    public int buy(int b, int s, int g, int n) {
        if (!now.isTrade(b, s, g, n)) {
            return BAD;
        }
        if (!now.canTrade(b, s, g, n)) {
            return STATE;
        }
        now.exchange(b, s, g, n);
        return now.money[b];
    }

    public int pluck(int b, int s, int g, int n) {
        if (!now.isTrade(b, s, g, n)) {
            return BAD;
        }
        if (!now.canPluck(b, s, g, n)) {
            return STATE;
        }
        now.moveFeathers(b, s, g, n);
        return now.held(g, b);
    }

    public int weeks(int n) {
        if (!isWithin(n, 0, MOST_WEEKS_GONE)) {
            return BAD;
        }
        if (now.week + n > MOST_WEEK) {
            return FULL;
        }
        return now.passWeeks(n);
    }

    public int runs(int what) {
        if (!isWithin(what, 0, 2)) {
            return BAD;
        }
        trial.copyFrom(now);
        int came = 0;
        int firstPassedOver = NONE;
        int moneyMoved = 0;
        for (int i = 0; i < trial.trades; i++) {
            if (trial.tryPlanned(i)) {
                came++;
                moneyMoved += trial.costOfPlanned(i);
            } else if (firstPassedOver == NONE) {
                firstPassedOver = i;
            }
        }
        return what == 0 ? came : what == 1 ? firstPassedOver : moneyMoved;
    }

    public int ahead(int o, int what) {
        if (!isOwner(o)) {
            return BAD;
        }
        trial.copyFrom(now);
        trial.followPlanWithout(NONE);
        return trial.ofOwner(o, what);
    }

    public int later(int g, int o, int n) {
        if (!now.hasGoose(g) || !isOwner(o) || !isWithin(n, 0, MOST_WEEKS_AHEAD)) {
            return BAD;
        }
        trial.copyFrom(now);
        trial.passWeeks(n);
        return trial.held(g, o);
    }

    public int eggs(int o, int n) {
        if (!isOwner(o) || !isWithin(n, 0, MOST_WEEKS_AHEAD)) {
            return BAD;
        }
        trial.copyFrom(now);
        trial.passWeeks(n);
        return trial.eggsHad[o];
    }

    public int bare(int g, int v) {
        if (!now.hasGoose(g) || !isWithin(v, 0, MOST_FEATHERS_OF_ALL)) {
            return BAD;
        }
        trial.copyFrom(now);
        for (int gone = 0; gone <= MOST_WEEKS_AHEAD; gone++) {
            if (trial.feathersOf(g) <= v) {
                return gone;
            }
            trial.passWeek();
        }
        return NONE;
    }

    public int rich(int n, int what) {
        if (!isWithin(n, 0, MOST_WEEKS_AHEAD) || !isWithin(what, 0, 1)) {
            return BAD;
        }
        trial.copyFrom(now);
        trial.passWeeks(n);
        int richest = 0;
        for (int o = 1; o < OWNERS; o++) {
            if (trial.worth(o) > trial.worth(richest)) {
                richest = o;
            }
        }
        return what == 0 ? richest : trial.worth(richest);
    }

    public int turn(int g) {
        if (!now.hasGoose(g)) {
            return BAD;
        }
        int ownerNow = now.eggOwner(g);
        trial.copyFrom(now);
        for (int gone = 1; gone <= MOST_WEEKS_AHEAD; gone++) {
            trial.passWeek();
            if (trial.eggOwner(g) != ownerNow) {
                return gone;
            }
        }
        return NONE;
    }

    // ---- what is best

    public int need(int o, int g, int what) {
        if (!isOwner(o) || !now.hasGoose(g) || !isWithin(what, 0, 1)) {
            return BAD;
        }
        if (now.eggOwner(g) == o) {
            return STATE;
        }
        trial.copyFrom(now);
        for (int n = LEAST_TRADED; n <= MOST_TRADED; n++) {
            for (int s = 0; s < OWNERS; s++) {
                if (s != o && trial.canTrade(o, s, g, n) && trial.wouldGetEgg(o, s, g, n)) {
                    return what == 0 ? 10 * s + n : n * now.price[g];
                }
            }
        }
        return NONE;
    }

    public int best(int o, int n, int what) {
        if (!isOwner(o) || !isWithin(n, 0, MOST_TRADES_IN_ROW)) {
            return BAD;
        }
        if (!isWithin(what, 0, 2) && !isWithin(what, 10, 11)) {
            return BAD;
        }
        rowSearch.findBest(now, o, n);
        switch (what) {
            case 0: return rowSearch.bestGeese;
            case 1: return rowSearch.bestMoney;
            case 2: return rowSearch.bestLength;
            case 10: return rowSearch.bestFirst;
            default: return rowSearch.bestSecond;
        }
    }

    public int leave(int o, int what) {
        if (!isOwner(o) || !isWithin(what, 0, 1)) {
            return BAD;
        }
        int mostWorth = worthByPlanWithout(NONE, o);
        int leftOut = NONE;
        for (int i = 0; i < now.trades; i++) {
            int worth = worthByPlanWithout(i, o);
            if (worth > mostWorth) {
                mostWorth = worth;
                leftOut = i;
            }
        }
        return what == 0 || leftOut == NONE ? leftOut : mostWorth;
    }

    public int swings(int g, int o) {
        return now.hasGoose(g) && isOwner(o) ? now.setsSwungBy(g, o) : BAD;
    }

    public long power(int g, int o, int what) {
        if (!now.hasGoose(g) || !isOwner(o) || !isWithin(what, 0, 1)) {
            return BAD;
        }
        int swungByAll = 0;
        for (int other = 0; other < OWNERS; other++) {
            swungByAll += now.setsSwungBy(g, other);
        }
        return partOfFraction(now.setsSwungBy(g, o), Math.max(1, swungByAll), what);
    }

    public int reign(int g, int o) {
        if (!now.hasGoose(g) || !isOwner(o)) {
            return BAD;
        }
        // He alone has more than half as soon as he has one more than all the others.
        int least = now.feathersOf(g) - now.held(g, o) + 1;
        return least <= MOST_FEATHERS ? least : NONE;
    }

    // ---- weeks that moult

    public long luck(int v, int g, int o, int n, int what) {
        if (!areOdds(v, n) || !now.hasGoose(g) || !isOwner(o) || !isWithin(what, 0, 1)) {
            return BAD;
        }
        trial.copyFrom(now);
        long lucky = 0;
        for (int moults = 0; moults <= n; moults++) {
            if (trial.eggOwner(g) == o) {
                lucky += waysToMoult(v, n, moults);
            }
            trial.passWeek();
        }
        return partOfFraction(lucky, raised(ODDS_OF, n), what);
    }

    public long mean(int v, int g, int n, int what) {
        if (!areOdds(v, n) || !now.hasGoose(g) || !isWithin(what, 0, 1)) {
            return BAD;
        }
        trial.copyFrom(now);
        long feathers = 0;
        for (int moults = 0; moults <= n; moults++) {
            feathers += waysToMoult(v, n, moults) * trial.feathersOf(g);
            trial.passWeek();
        }
        return partOfFraction(feathers, raised(ODDS_OF, n), what);
    }

    // ---- what one was

    public int see(int g, int o, int n, int v) {
        if (!now.hasGoose(g) || !isOwner(o)) {
            return BAD;
        }
        if (!isWithin(n, 0, MOST_WEEKS_SEEN) || !isWithin(v, 0, MOST_FEATHERS)) {
            return BAD;
        }
        return sightings.add(g, o, n, v) ? sightings.size : FULL;
    }

    public int forget(int n) {
        if (!isWithin(n, 0, sightings.size)) {
            return BAD;
        }
        int had = sightings.size;
        sightings.size = n;
        return had;
    }

    public int kinds(int g) {
        return now.hasGoose(g) ? kindsAsSeen(g) : BAD;
    }

    public int skins(int g) {
        if (!now.hasGoose(g)) {
            return BAD;
        }
        int possible = 0;
        for (int o = 0; o < OWNERS; o++) {
            trial.copyFrom(now);
            trial.skin[g] = o;
            if (sightings.agreeWith(trial)) {
                possible |= 1 << o;
            }
        }
        return possible;
    }

    public int look(int g, int what) {
        if (!now.hasGoose(g) || !isWithin(what, 0, 1)) {
            return BAD;
        }
        int possible = kindsAsSeen(g);
        foretellByKind(g);
        int fewest = Integer.bitCount(possible);
        int where = NONE;
        for (int gone = 0; gone <= MOST_WEEKS_SEEN; gone++) {
            for (int o = 0; o < OWNERS; o++) {
                int left = mostKindsAlike(possible, gone, o);
                if (left < fewest) {
                    fewest = left;
                    where = 10 * gone + o;
                }
            }
        }
        return what == 0 || where == NONE ? where : fewest;
    }

    // ---- by a seed

    public int drift(int seed, int n, int what) {
        if (!isWithin(n, 1, MOST_DRIFTS) || !isWithin(what, 0, 1)) {
            return BAD;
        }
        if (now.geese < 1) {
            return STATE;
        }
        trial.copyFrom(now);
        int next = seed;
        int laid = 0;
        int came = 0;
        for (int i = 0; i < n; i++) {
            next = next * 1103515245 + 12345;
            if (trial.tryDrawn((next >>> 16) & 0x7fff)) {
                came++;
            } else {
                laid += trial.passWeek();
            }
        }
        return what == 0 ? laid : came;
    }

    // ---- images, sheets

    public int keep(int k) {
        if (!isWithin(k, 0, IMAGES - 1)) {
            return BAD;
        }
        int wasKept = keptImages >> k & 1;
        images[k].copyFrom(now);
        keptImages |= 1 << k;
        return wasKept;
    }

    public int back(int k) {
        if (!isWithin(k, 0, IMAGES - 1)) {
            return BAD;
        }
        if ((keptImages >> k & 1) == 0) {
            return STATE;
        }
        now.copyFrom(images[k]);
        return now.week;
    }

    public int sheet(int k, int lane, int n) {
        if (!isSheet(k) || !isLane(lane) || n > MOST_CELLS) {
            return BAD;
        }
        if (n < 0) {
            return -10 - FAULT_SIZE;
        }
        sheets[k].renew(lane, n);
        return 1;
    }

    public int lay(int k, int i, int v) {
        if (!isSheet(k)) {
            return BAD;
        }
        int found = sheets[k].put(i, v);
        return found == NO_FAULT ? 1 : -10 - found;
    }

    public int read(int k, int lane, int f, int n) {
        if (!isSheet(k) || !isLane(lane) || !isWithin(n, 0, MOST_TRADES_READ)) {
            return BAD;
        }
        Sheet source = sheets[k];
        trial.copyFrom(now);
        int found = NO_FAULT;
        int came = 0;
        // No cell number overflows: where the first cell is none of the sheet's, nothing further is read.
        for (int i = 0; i < n && found == NO_FAULT; i++) {
            int first = f + CELLS_OF_TRADE * i;
            found = source.faultOfTrade(lane, first);
            if (found == NO_FAULT) {
                if (!source.tradeOn(first, trial)) {
                    return -20 - i;
                }
                came++;
            }
        }
        now.copyFrom(trial);
        faultOfRead = found;
        return came;
    }

    public int torn() {
        return faultOfRead;
    }

    public int count(int what) {
        switch (what) {
            case 0: return sightings.size;
            case 1: return Integer.bitCount(keptImages);
            case 2: return tape.length;
            case 3: return sheets[0].isNothing ? NONE : sheets[0].size;
            case 4: return sumOf(now.feathers);
            case 5: return now.feathersOfPlan();
            default: return BAD;
        }
    }

    // ---- what several of these use

    private static boolean isWithin(int v, int least, int most) {
        return v >= least && v <= most;
    }

    private static boolean isOwner(int o) {
        return isWithin(o, 0, OWNERS - 1);
    }

    private static boolean isSheet(int k) {
        return isWithin(k, 0, SHEETS - 1);
    }

    private static boolean isLane(int lane) {
        return isWithin(lane, BYTES, INTS);
    }

    private static boolean areOdds(int v, int n) {
        return isWithin(v, 0, ODDS_OF) && isWithin(n, 0, MOST_WEEKS_BY_ODDS);
    }

    private static int sumOf(int[] row) {
        int sum = 0;
        for (int value : row) {
            sum += value;
        }
        return sum;
    }

    private static int replaced(int[] row, int i, int v) {
        if (!isWithin(i, 0, row.length - 1)) {
            return BAD;
        }
        int was = row[i];
        row[i] = v;
        return was;
    }

    private int worthByPlanWithout(int leftOut, int o) {
        trial.copyFrom(now);
        trial.followPlanWithout(leftOut);
        return trial.worth(o);
    }

    private int kindsAsSeen(int g) {
        int possible = 0;
        for (int kind = 0; kind < KINDS; kind++) {
            trial.copyFrom(now);
            trial.kind[g] = kind;
            if (sightings.agreeWith(trial)) {
                possible |= 1 << kind;
            }
        }
        return possible;
    }

    private static int placeByKind(int kind, int gone, int o) {
        return (kind * (MOST_WEEKS_SEEN + 1) + gone) * OWNERS + o;
    }

    private void foretellByKind(int g) {
        for (int kind = 0; kind < KINDS; kind++) {
            trial.copyFrom(now);
            trial.kind[g] = kind;
            for (int gone = 0; gone <= MOST_WEEKS_SEEN; gone++) {
                for (int o = 0; o < OWNERS; o++) {
                    laterByKind[placeByKind(kind, gone, o)] = trial.held(g, o);
                }
                trial.passWeek();
            }
        }
    }

    /** What is left at the worst is the largest group of kinds that one look does not tell apart. */
    private int mostKindsAlike(int possible, int gone, int o) {
        int most = 0;
        for (int kind = 0; kind < KINDS; kind++) {
            int alike = 0;
            for (int other = 0; other < KINDS; other++) {
                boolean bothPossible = (possible >> kind & possible >> other & 1) == 1;
                if (bothPossible && laterByKind[placeByKind(kind, gone, o)] == laterByKind[placeByKind(other, gone, o)]) {
                    alike++;
                }
            }
            most = Math.max(most, alike);
        }
        return most;
    }

    private static long raised(int base, int exponent) {
        long result = 1;
        for (int i = 0; i < exponent; i++) {
            result *= base;
        }
        return result;
    }

    /** Of the 10 to the n cases alike, those in which just so many of n weeks moult. */
    private static long waysToMoult(int v, int n, int moults) {
        long choices = 1;
        for (int i = 1; i <= moults; i++) {
            choices = choices * (n - moults + i) / i;
        }
        return choices * raised(v, moults) * raised(ODDS_OF - v, n - moults);
    }

    private static long partOfFraction(long numerator, long denominator, int what) {
        long divisor = Math.max(1, commonDivisor(numerator, denominator));
        return (what == 0 ? numerator : denominator) / divisor;
    }

    private static long commonDivisor(long a, long b) {
        long larger = a;
        long smaller = b;
        for (int step = 0; step < 200 && smaller != 0; step++) {
            long rest = larger % smaller;
            larger = smaller;
            smaller = rest;
        }
        return larger;
    }

    /** All that an image keeps: the geese, who has what, the week and the plan. */
    private static final class Flock {
        private int geese = 0;
        private int week = 0;
        private int trades = 0;
        private final int[] kind = new int[MOST_GEESE];
        private final int[] skin = new int[MOST_GEESE];
        private final int[] price = new int[MOST_GEESE];
        private final int[] feathers = new int[MOST_GEESE * OWNERS];
        private final int[] money = new int[OWNERS];
        private final int[] eggsHad = new int[OWNERS];
        private final int[] planBuyer = new int[MOST_TRADES];
        private final int[] planSeller = new int[MOST_TRADES];
        private final int[] planGoose = new int[MOST_TRADES];
        private final int[] planAmount = new int[MOST_TRADES];

        private Flock() {
            Arrays.fill(money, FIRST_MONEY);
        }

        private void clear() {
            geese = 0;
            week = 0;
            trades = 0;
            Arrays.fill(feathers, 0);
            Arrays.fill(money, FIRST_MONEY);
            Arrays.fill(eggsHad, 0);
        }

        private void copyFrom(Flock other) {
            geese = other.geese;
            week = other.week;
            trades = other.trades;
            System.arraycopy(other.kind, 0, kind, 0, MOST_GEESE);
            System.arraycopy(other.skin, 0, skin, 0, MOST_GEESE);
            System.arraycopy(other.price, 0, price, 0, MOST_GEESE);
            System.arraycopy(other.feathers, 0, feathers, 0, MOST_GEESE * OWNERS);
            System.arraycopy(other.money, 0, money, 0, OWNERS);
            System.arraycopy(other.eggsHad, 0, eggsHad, 0, OWNERS);
            System.arraycopy(other.planBuyer, 0, planBuyer, 0, MOST_TRADES);
            System.arraycopy(other.planSeller, 0, planSeller, 0, MOST_TRADES);
            System.arraycopy(other.planGoose, 0, planGoose, 0, MOST_TRADES);
            System.arraycopy(other.planAmount, 0, planAmount, 0, MOST_TRADES);
        }

        private boolean hasGoose(int g) {
            return isWithin(g, 0, geese - 1);
        }

        private void addGoose(int itsKind, int itsSkin, int itsPrice) {
            if (geese >= MOST_GEESE) {
                return;
            }
            kind[geese] = itsKind;
            skin[geese] = itsSkin;
            price[geese] = itsPrice;
            geese++;
        }

        private int held(int g, int o) {
            return feathers[g * OWNERS + o];
        }

        private int feathersOf(int g) {
            int sum = 0;
            for (int o = 0; o < OWNERS; o++) {
                sum += held(g, o);
            }
            return sum;
        }

        private int bareGeese() {
            int bits = 0;
            for (int g = 0; g < geese; g++) {
                if (feathersOf(g) == 0) {
                    bits |= 1 << g;
                }
            }
            return bits;
        }

        private int eggOwner(int g) {
            int first = 0;
            for (int o = 1; o < OWNERS; o++) {
                if (held(g, o) > held(g, first)) {
                    first = o;
                }
            }
            if (held(g, first) == 0) {
                return NONE;
            }
            return held(g, skin[g]) == held(g, first) ? skin[g] : first;
        }

        private int geeseWithEggOf(int o) {
            int bits = 0;
            for (int g = 0; g < geese; g++) {
                if (eggOwner(g) == o) {
                    bits |= 1 << g;
                }
            }
            return bits;
        }

        private int worth(int o) {
            int sum = money[o];
            for (int g = 0; g < geese; g++) {
                sum += held(g, o) * price[g];
            }
            return sum;
        }

        private int ofOwner(int o, int what) {
            switch (what) {
                case 0: return money[o];
                case 1: return eggsHad[o];
                case 2: return worth(o);
                case 3: return geeseWithEggOf(o);
                default: return BAD;
            }
        }

        private boolean isTrade(int b, int s, int g, int n) {
            return isOwner(b) && isOwner(s) && b != s && hasGoose(g) && isWithin(n, LEAST_TRADED, MOST_TRADED);
        }

        private boolean canPluck(int b, int s, int g, int n) {
            return held(g, s) >= n && held(g, b) + n <= MOST_FEATHERS;
        }

        private boolean canTrade(int b, int s, int g, int n) {
            int cost = n * price[g];
            return canPluck(b, s, g, n) && money[b] >= cost && money[s] + cost <= MOST_MONEY;
        }

        private void moveFeathers(int b, int s, int g, int n) {
            feathers[g * OWNERS + s] -= n;
            feathers[g * OWNERS + b] += n;
        }

        private void exchange(int b, int s, int g, int n) {
            moveFeathers(b, s, g, n);
            money[b] -= n * price[g];
            money[s] += n * price[g];
        }

        private boolean tryTrade(int b, int s, int g, int n) {
            if (!isTrade(b, s, g, n) || !canTrade(b, s, g, n)) {
                return false;
            }
            exchange(b, s, g, n);
            return true;
        }

        private boolean tryDrawn(int got) {
            if (geese < 1) {
                return false;
            }
            return tryTrade(got / 4 % OWNERS, got / 32 % OWNERS, got % geese, 1 + got / 256 % MOST_TRADED);
        }

        private boolean wouldGetEgg(int b, int s, int g, int n) {
            moveFeathers(b, s, g, n);
            boolean gotten = eggOwner(g) == b;
            moveFeathers(s, b, g, n);
            return gotten;
        }

        private boolean addToPlan(int b, int s, int g, int n) {
            if (trades >= MOST_TRADES) {
                return false;
            }
            planBuyer[trades] = b;
            planSeller[trades] = s;
            planGoose[trades] = g;
            planAmount[trades] = n;
            trades++;
            return true;
        }

        private boolean tryPlanned(int i) {
            return tryTrade(planBuyer[i], planSeller[i], planGoose[i], planAmount[i]);
        }

        private int costOfPlanned(int i) {
            return planAmount[i] * price[planGoose[i]];
        }

        private void followPlanWithout(int leftOut) {
            for (int i = 0; i < trades; i++) {
                if (i != leftOut) {
                    tryPlanned(i);
                }
            }
        }

        private int feathersOfPlan() {
            int sum = 0;
            for (int i = 0; i < trades; i++) {
                sum += planAmount[i];
            }
            return sum;
        }

        private int passWeeks(int n) {
            int laid = 0;
            for (int i = 0; i < n; i++) {
                laid += passWeek();
            }
            return laid;
        }

        private int passWeek() {
            int laid = 0;
            for (int g = 0; g < geese; g++) {
                int hers = eggOwner(g);
                if (hers != NONE) {
                    eggsHad[hers]++;
                    laid++;
                }
                moult(g);
            }
            week++;
            return laid;
        }

        private void moult(int g) {
            int lostByAll = 0;
            for (int o = 0; o < OWNERS; o++) {
                int lost = lossOf(kind[g], held(g, o));
                feathers[g * OWNERS + o] -= lost;
                lostByAll += lost;
            }
            int grown = held(g, skin[g]) + (lostByAll + 1) / 2;
            feathers[g * OWNERS + skin[g]] = Math.min(MOST_FEATHERS, grown);
        }

        private static int lossOf(int itsKind, int held) {
            int plainLoss = held / 8;
            int moulterLoss = Math.min(held, 2 * plainLoss + 1);
            switch (itsKind) {
                case PLAIN: return plainLoss;
                case MOULTER: return moulterLoss;
                case SWAN: return moulterLoss / 2;
                case DRAKE: return Math.max(0, plainLoss - 1);
                default: return 0;
            }
        }

        private boolean isInPower(int g, int owners) {
            int votes = 0;
            for (int o = 0; o < OWNERS; o++) {
                votes += (owners >> o & 1) * held(g, o);
            }
            return 2 * votes > feathersOf(g);
        }

        private int setsSwungBy(int g, int o) {
            int swung = 0;
            for (int others = 0; others < 1 << OWNERS; others++) {
                boolean withoutHim = (others >> o & 1) == 0;
                if (withoutHim && !isInPower(g, others) && isInPower(g, others | 1 << o)) {
                    swung++;
                }
            }
            return swung;
        }
    }

    /** The bytes that were fed, and the token of them that was read last. */
    private static final class Tape {
        private final int[] bytes = new int[MOST_BYTES];
        private int length = 0;
        private int place = 0;
        private int tokenStart = 0;
        private int token = TOKEN_END;
        private int value = 0;

        private boolean append(int c) {
            if (length >= MOST_BYTES) {
                return false;
            }
            bytes[length] = c;
            length++;
            return true;
        }

        private void rewind() {
            place = 0;
            tokenStart = 0;
            token = TOKEN_END;
        }

        private void nextToken() {
            while (place < length && bytes[place] == ' ') {
                place++;
            }
            tokenStart = place;
            if (place >= length) {
                token = TOKEN_END;
            } else if (isLetter(bytes[place])) {
                takeName();
            } else if (isFigure(bytes[place])) {
                takeNumber();
            } else {
                token = bytes[place] == ';' ? TOKEN_SEMICOLON : TOKEN_NONE;
                place++;
            }
        }

        private void takeName() {
            token = TOKEN_NAME;
            while (place < length && isLetter(bytes[place])) {
                place++;
            }
        }

        private void takeNumber() {
            value = 0;
            while (place < length && isFigure(bytes[place])) {
                // A number of many figures is refused below, so what its value wraps to is never used.
                value = 10 * value + bytes[place] - '0';
                place++;
            }
            token = place - tokenStart <= 2 ? TOKEN_NUMBER : TOKEN_NONE;
        }

        private boolean spells(String word) {
            if (word.length() != place - tokenStart) {
                return false;
            }
            for (int i = 0; i < word.length(); i++) {
                if (word.charAt(i) != bytes[tokenStart + i]) {
                    return false;
                }
            }
            return true;
        }

        private static boolean isLetter(int c) {
            return c >= 'a' && c <= 'z';
        }

        private static boolean isFigure(int c) {
            return c >= '0' && c <= '9';
        }
    }

    /** Reads a tape into a draft; behind the first fault nothing more is read, so that one stays. */
    private static final class TextReader {
        private final Flock draft = new Flock();
        private int lines = 0;
        private int faultFound = NO_FAULT;
        private int faultPlace = 0;
        private int toldShares = 0;
        private int toldMoney = 0;
        private int namedGeese = 0;

        private void readAll(Tape tape) {
            draft.clear();
            lines = 0;
            faultFound = NO_FAULT;
            faultPlace = 0;
            toldShares = 0;
            toldMoney = 0;
            namedGeese = 0;
            tape.rewind();
            while (lines <= MOST_BYTES && readLine(tape)) {
                lines++;
            }
            if (namedGeese >> draft.geese != 0) {
                refuse(FAULT_NO_GOOSE, tape.length);
            }
        }

        private void refuse(int faultCode, int at) {
            if (faultFound == NO_FAULT) {
                faultFound = faultCode;
                faultPlace = at;
            }
        }

        /** Whether a whole line came. */
        private boolean readLine(Tape tape) {
            tape.nextToken();
            if (tape.token == TOKEN_END) {
                return false;
            }
            if (tape.token == TOKEN_NONE) {
                refuse(FAULT_NO_TOKEN, tape.tokenStart);
                return false;
            }
            switch (lineNamed(tape)) {
                case PLAIN: readGoose(tape, PLAIN); break;
                case MOULTER: readGoose(tape, MOULTER); break;
                case SWAN: readGoose(tape, SWAN); break;
                case DRAKE: readGoose(tape, DRAKE); break;
                case LINE_SHARE: readShare(tape); break;
                case LINE_MONEY: readMoney(tape); break;
                case LINE_TRADE: readTrade(tape); break;
                default: refuse(FAULT_PLACE, tape.tokenStart); break;
            }
            return faultFound == NO_FAULT;
        }

        /** A kind, where the token names one, or another line; NONE, where it begins no line. */
        private static int lineNamed(Tape tape) {
            if (tape.token != TOKEN_NAME) {
                return NONE;
            }
            return tape.spells("plain") ? PLAIN
                : tape.spells("moulter") ? MOULTER
                : tape.spells("swan") ? SWAN
                : tape.spells("drake") ? DRAKE
                : tape.spells("share") ? LINE_SHARE
                : tape.spells("money") ? LINE_MONEY
                : tape.spells("trade") ? LINE_TRADE
                : NONE;
        }

        private void readGoose(Tape tape, int kind) {
            if (draft.geese >= MOST_GEESE) {
                refuse(FAULT_TOO_MANY, tape.tokenStart);
            }
            int skin = nextNumber(tape, 0, OWNERS - 1);
            int price = nextNumber(tape, LEAST_PRICE, MOST_PRICE);
            if (isLineEnded(tape)) {
                draft.addGoose(kind, skin, price);
            }
        }

        private void readShare(Tape tape) {
            int g = nextNumber(tape, 0, MOST_GEESE - 1);
            int o = nextNumber(tape, 0, OWNERS - 1);
            int place = g * OWNERS + o;
            if ((toldShares >> place & 1) == 1) {
                refuse(FAULT_TWICE, tape.tokenStart);
            }
            int held = nextNumber(tape, 0, MOST_FEATHERS);
            if (isLineEnded(tape)) {
                toldShares |= 1 << place;
                namedGeese |= 1 << g;
                draft.feathers[place] = held;
            }
        }

        private void readMoney(Tape tape) {
            int o = nextNumber(tape, 0, OWNERS - 1);
            if ((toldMoney >> o & 1) == 1) {
                refuse(FAULT_TWICE, tape.tokenStart);
            }
            int money = nextNumber(tape, 0, MOST_MONEY_TOLD);
            if (isLineEnded(tape)) {
                toldMoney |= 1 << o;
                draft.money[o] = money;
            }
        }

        private void readTrade(Tape tape) {
            if (draft.trades >= MOST_TRADES) {
                refuse(FAULT_TOO_MANY, tape.tokenStart);
            }
            int b = nextNumber(tape, 0, OWNERS - 1);
            int s = nextNumber(tape, 0, OWNERS - 1);
            if (s == b) {
                refuse(FAULT_BOUNDS, tape.tokenStart);
            }
            int g = nextNumber(tape, 0, MOST_GEESE - 1);
            int n = nextNumber(tape, LEAST_TRADED, MOST_TRADED);
            if (isLineEnded(tape)) {
                namedGeese |= 1 << g;
                draft.addToPlan(b, s, g, n);
            }
        }

        /** By a fault it answers the least, which is safe to go on with. */
        private int nextNumber(Tape tape, int least, int most) {
            if (faultFound != NO_FAULT) {
                return least;
            }
            tape.nextToken();
            refuseOther(tape, TOKEN_NUMBER);
            if (faultFound == NO_FAULT && !isWithin(tape.value, least, most)) {
                refuse(FAULT_BOUNDS, tape.tokenStart);
            }
            return faultFound == NO_FAULT ? tape.value : least;
        }

        private boolean isLineEnded(Tape tape) {
            if (faultFound != NO_FAULT) {
                return false;
            }
            tape.nextToken();
            refuseOther(tape, TOKEN_SEMICOLON);
            return faultFound == NO_FAULT;
        }

        private void refuseOther(Tape tape, int wanted) {
            if (tape.token == TOKEN_NONE) {
                refuse(FAULT_NO_TOKEN, tape.tokenStart);
            } else if (tape.token != wanted) {
                refuse(FAULT_PLACE, tape.tokenStart);
            }
        }
    }

    /** What is SEEN: so many weeks on, an owner has such a share of a goose. */
    private static final class Sightings {
        private int size = 0;
        private final int[] ofGoose = new int[MOST_SEEN];
        private final int[] ofOwner = new int[MOST_SEEN];
        private final int[] behindWeeks = new int[MOST_SEEN];
        private final int[] feathersSeen = new int[MOST_SEEN];

        private boolean add(int g, int o, int n, int v) {
            if (size >= MOST_SEEN) {
                return false;
            }
            ofGoose[size] = g;
            ofOwner[size] = o;
            behindWeeks[size] = n;
            feathersSeen[size] = v;
            size++;
            return true;
        }

        /** The flock is a copy to be used up: its weeks go by here. */
        private boolean agreeWith(Flock flock) {
            for (int gone = 0; gone <= MOST_WEEKS_SEEN; gone++) {
                if (!agreeAt(gone, flock)) {
                    return false;
                }
                flock.passWeek();
            }
            return true;
        }

        private boolean agreeAt(int gone, Flock flock) {
            for (int i = 0; i < size; i++) {
                if (behindWeeks[i] == gone && flock.held(ofGoose[i], ofOwner[i]) != feathersSeen[i]) {
                    return false;
                }
            }
            return true;
        }
    }

    /** The row of trades by which one has most eggs; a trade's code tells of whom, which goose, how many. */
    private static final class RowSearch {
        private final Flock flock = new Flock();
        private final int[] codes = new int[OWNERS * MOST_GEESE * MOST_TRADED];
        private int codeCount = 0;
        private int buyer = 0;
        private int bestGeese = 0;
        private int bestMoney = 0;
        private int bestLength = 0;
        private int bestFirst = NONE;
        private int bestSecond = NONE;

        private void findBest(Flock start, int o, int mostTrades) {
            flock.copyFrom(start);
            buyer = o;
            bestGeese = Integer.bitCount(flock.geeseWithEggOf(o));
            bestMoney = 0;
            bestLength = 0;
            bestFirst = NONE;
            bestSecond = NONE;
            listCodes();
            for (int i = 0; i < codeCount && mostTrades >= 1; i++) {
                make(codes[i], 1);
                weigh(start, 1, codes[i], NONE);
                if (mostTrades >= 2) {
                    weighPairs(start, i);
                }
                make(codes[i], -1);
            }
        }

        /** Only trades that can be alone: one that can not is none behind another one either, as he only buys. */
        private void listCodes() {
            codeCount = 0;
            for (int s = 0; s < OWNERS; s++) {
                for (int g = 0; g < flock.geese; g++) {
                    for (int n = LEAST_TRADED; n <= MOST_TRADED; n++) {
                        if (s != buyer && flock.canTrade(buyer, s, g, n)) {
                            codes[codeCount] = 100 * s + 10 * g + n;
                            codeCount++;
                        }
                    }
                }
            }
        }

        /** Two trades come to the same either way round, so the row that is first has the lesser code ahead. */
        private void weighPairs(Flock start, int first) {
            for (int j = first; j < codeCount; j++) {
                int code = codes[j];
                if (flock.canTrade(buyer, sellerOf(code), gooseOf(code), amountOf(code))) {
                    make(code, 1);
                    weigh(start, 2, codes[first], code);
                    make(code, -1);
                }
            }
        }

        /** Makes a trade (times 1) or takes it back (times -1). */
        private void make(int code, int times) {
            flock.exchange(buyer, sellerOf(code), gooseOf(code), times * amountOf(code));
        }

        private void weigh(Flock start, int length, int first, int second) {
            int geese = Integer.bitCount(flock.geeseWithEggOf(buyer));
            int money = start.money[buyer] - flock.money[buyer];
            if (isBetter(geese, money, length)) {
                bestGeese = geese;
                bestMoney = money;
                bestLength = length;
                bestFirst = first;
                bestSecond = second;
            }
        }

        private boolean isBetter(int geese, int money, int length) {
            if (geese != bestGeese) {
                return geese > bestGeese;
            }
            return money < bestMoney || money == bestMoney && length < bestLength;
        }

        private static int sellerOf(int code) {
            return code / 100;
        }

        private static int gooseOf(int code) {
            return code / 10 % 10;
        }

        private static int amountOf(int code) {
            return code % 10;
        }
    }

    /** A row of cells, held as ints that are cut to what their lane can hold. */
    private static final class Sheet {
        private final int[] cells = new int[MOST_CELLS];
        private boolean isNothing = true;
        private int lane = BYTES;
        private int size = 0;

        private void renew(int itsLane, int itsSize) {
            isNothing = false;
            lane = itsLane;
            size = itsSize;
            Arrays.fill(cells, 0);
        }

        private int put(int i, int v) {
            if (isNothing) {
                return FAULT_NULL;
            }
            if (!isWithin(i, 0, size - 1)) {
                return FAULT_INDEX;
            }
            cells[i] = lane == BYTES ? (byte) v : lane == SHORTS ? (short) v : v;
            return NO_FAULT;
        }

        private int faultOfTrade(int asLane, int first) {
            if (isNothing) {
                return FAULT_NULL;
            }
            if (lane != asLane) {
                return FAULT_CAST;
            }
            return isWithin(first, 0, size - CELLS_OF_TRADE) ? NO_FAULT : FAULT_INDEX;
        }

        private boolean tradeOn(int first, Flock flock) {
            return flock.tryTrade(cells[first], cells[first + 1], cells[first + 2], cells[first + 3]);
        }
    }
}
