import java.math.BigInteger;
import java.util.ArrayList;
import java.util.Arrays;
import java.util.List;

/** The document told a second time, as plainly as can be and without a thought for speed: what ModelTest compares with. */
final class Model {
    private static final int BAD = -1, STATE = -2, FULL = -3, NONE = -4;
    private static final List<String> KINDS = Arrays.asList("plain", "moulter", "swan", "drake");

    /** What an image is of. */
    private static final class Land {
        private final List<int[]> geese = new ArrayList<>();
        private final List<int[]> shares = new ArrayList<>();
        private final int[] money = {20, 20, 20, 20, 20};
        private final int[] eggs = new int[5];
        private final List<int[]> plan = new ArrayList<>();
        private int week = 0;

        private Land copy() {
            Land other = new Land();
            geese.forEach(goose -> other.geese.add(goose.clone()));
            shares.forEach(row -> other.shares.add(row.clone()));
            System.arraycopy(money, 0, other.money, 0, 5);
            System.arraycopy(eggs, 0, other.eggs, 0, 5);
            other.plan.addAll(plan);
            other.week = week;
            return other;
        }

        private int feathers(int g) {
            return Arrays.stream(shares.get(g)).sum();
        }

        private int egg(int g) {
            int most = Arrays.stream(shares.get(g)).max().getAsInt();
            if (feathers(g) == 0) {
                return NONE;
            }
            List<Integer> those = new ArrayList<>();
            for (int o = 0; o < 5; o++) {
                if (shares.get(g)[o] == most) {
                    those.add(o);
                }
            }
            return those.contains(geese.get(g)[1]) ? geese.get(g)[1] : those.get(0);
        }

        private int worth(int o) {
            int worth = money[o];
            for (int g = 0; g < geese.size(); g++) {
                worth += shares.get(g)[o] * geese.get(g)[2];
            }
            return worth;
        }

        private int eggBits(int o) {
            int bits = 0;
            for (int g = 0; g < geese.size(); g++) {
                bits += egg(g) == o ? 1 << g : 0;
            }
            return bits;
        }

        private int trade(int[] t, boolean forMoney) {
            int b = t[0];
            int s = t[1];
            int g = t[2];
            int n = t[3];
            if (b < 0 || b > 4 || s < 0 || s > 4 || b == s || g < 0 || g >= geese.size() || n < 1 || n > 9) {
                return BAD;
            }
            int cost = forMoney ? n * geese.get(g)[2] : 0;
            int[] row = shares.get(g);
            if (row[s] < n || row[b] > 99 - n || money[b] < cost || forMoney && money[s] > 999 - cost) {
                return STATE;
            }
            row[s] -= n;
            row[b] += n;
            money[b] -= cost;
            money[s] += cost;
            return cost;
        }

        private int goWeek() {
            int laid = 0;
            for (int g = 0; g < geese.size(); g++) {
                if (egg(g) != NONE) {
                    eggs[egg(g)]++;
                    laid++;
                }
                int all = 0;
                int[] row = shares.get(g);
                for (int o = 0; o < 5; o++) {
                    int lost = loses(KINDS.get(geese.get(g)[0]), row[o]);
                    row[o] -= lost;
                    all += lost;
                }
                int skin = geese.get(g)[1];
                row[skin] = Math.min(99, row[skin] + (int) Math.ceil(all / 2.0));
            }
            week++;
            return laid;
        }

        private static int loses(String kind, int share) {
            switch (kind) {
                case "plain": return share / 8;
                case "moulter": return Math.min(share, 1 + 2 * loses("plain", share));
                case "swan": return loses("moulter", share) / 2;
                default: return Math.max(0, loses("plain", share) - 1);
            }
        }
    }

    private Land now = new Land();
    private final Land[] images = new Land[2];
    private String tape = "";
    private int fault = 0;
    private final List<int[]> seen = new ArrayList<>();
    private final int[][] sheets = new int[4][];
    private final int[] lanes = new int[4];
    private int torn = 0;

    private Land behind(int n) {
        Land then = now.copy();
        for (int i = 0; i < n; i++) {
            then.goWeek();
        }
        return then;
    }

    private boolean goose(int g) {
        return g >= 0 && g < now.geese.size();
    }

    private static boolean in(int v, int least, int most) {
        return least <= v && v <= most;
    }

    /** The call of this name with these numbers. */
    long call(String name, int[] a) {
        switch (name) {
            case "feed": case "end": case "text": case "fault": return ofTheTape(name, a);
            case "rule": case "goose": case "owner": case "share": case "trade": return whatThereIs(name, a);
            case "alter": case "purse": case "grant": case "plan": case "cut": return whatIsChanged(name, a);
            case "buy": case "pluck": case "weeks": case "runs": case "ahead": return tradesAndWeeks(name, a);
            case "later": case "eggs": case "bare": case "rich": case "turn": return byWeeks(name, a);
            case "need": return need(a[0], a[1], a[2]);
            case "best": return best(a[0], a[1], a[2]);
            case "leave": return leave(a[0], a[1]);
            case "swings": case "power": case "reign": return votes(name, a);
            case "luck": return a.length == 5 && in(a[2], 0, 4) ? odds(a[0], a[1], a[2], a[3], a[4]) : BAD;
            case "mean": return odds(a[0], a[1], NONE, a[2], a[3]);
            case "see": case "forget": return seen(name, a);
            case "kinds": return goose(a[0]) ? asSeen(a[0], 0, 4) : BAD;
            case "skins": return goose(a[0]) ? asSeen(a[0], 1, 5) : BAD;
            case "look": return look(a[0], a[1]);
            case "drift": return drift(a[0], a[1], a[2]);
            case "keep": case "back": return ofImages(name, a[0]);
            case "sheet": case "lay": case "read": case "torn": return ofSheets(name, a);
            case "count": return count(a[0]);
            default: throw new IllegalArgumentException(name);
        }
    }

    private long ofTheTape(String name, int[] a) {
        switch (name) {
            case "feed":
                if (!in(a[0], 0, 127)) {
                    return BAD;
                }
                if (tape.length() == 160) {
                    return FULL;
                }
                tape += (char) a[0];
                return tape.length();
            case "end":
                if (!in(a[0], 0, tape.length())) {
                    return BAD;
                }
                int had = tape.length();
                tape = tape.substring(0, a[0]);
                return had;
            case "text":
                TextModel text = new TextModel(tape);
                tape = "";
                fault = text.fault();
                if (fault != 0) {
                    return -10 - text.place();
                }
                take(text);
                return text.lines();
            default:
                return fault;
        }
    }

    private void take(TextModel text) {
        now = new Land();
        text.geese().forEach(goose -> {
            now.geese.add(goose);
            now.shares.add(new int[5]);
        });
        text.shares().forEach((key, v) -> now.shares.get(key / 10)[key % 10] = v);
        text.money().forEach((o, v) -> now.money[o] = v);
        now.plan.addAll(text.trades());
        seen.clear();
        images[0] = null;
        images[1] = null;
    }

    private long whatThereIs(String name, int[] a) {
        switch (name) {
            case "rule": return rule(a[0]);
            case "goose":
                if (!goose(a[0]) || !in(a[1], 0, 4)) {
                    return BAD;
                }
                return a[1] < 3 ? now.geese.get(a[0])[a[1]] : a[1] == 3 ? now.feathers(a[0]) : now.egg(a[0]);
            case "owner": return owner(now, a[0], a[1]);
            case "share": return goose(a[0]) && in(a[1], 0, 4) ? now.shares.get(a[0])[a[1]] : BAD;
            default: return in(a[0], 0, now.plan.size() - 1) && in(a[1], 0, 3) ? now.plan.get(a[0])[a[1]] : BAD;
        }
    }

    private long rule(int what) {
        int bare = 0;
        for (int g = 0; g < now.geese.size(); g++) {
            bare |= now.feathers(g) == 0 ? 1 << g : 0;
        }
        int[] told = {now.geese.size(), now.week, now.plan.size(), Arrays.stream(now.money).sum(), Arrays.stream(now.eggs).sum(), bare};
        return in(what, 0, 5) ? told[what] : BAD;
    }

    private static long owner(Land land, int o, int what) {
        if (!in(o, 0, 4) || !in(what, 0, 3)) {
            return BAD;
        }
        return new int[] {land.money[o], land.eggs[o], land.worth(o), land.eggBits(o)}[what];
    }

    private long whatIsChanged(String name, int[] a) {
        switch (name) {
            case "alter":
                int[][] bounds = {{0, 3}, {0, 4}, {1, 9}};
                if (!goose(a[0]) || !in(a[1], 0, 2) || !in(a[2], bounds[a[1]][0], bounds[a[1]][1])) {
                    return BAD;
                }
                return replace(now.geese.get(a[0]), a[1], a[2]);
            case "purse": return in(a[0], 0, 4) && in(a[1], 0, 999) ? replace(now.money, a[0], a[1]) : BAD;
            case "grant":
                return goose(a[0]) && in(a[1], 0, 4) && in(a[2], 0, 99) ? replace(now.shares.get(a[0]), a[1], a[2]) : BAD;
            case "plan":
                if (now.copy().trade(a, false) == BAD) {
                    return BAD;
                }
                if (now.plan.size() == 6) {
                    return FULL;
                }
                now.plan.add(a.clone());
                return now.plan.size();
            default:
                int had = now.plan.size();
                if (!in(a[0], 0, had)) {
                    return BAD;
                }
                now.plan.subList(a[0], had).clear();
                return had;
        }
    }

    private static int replace(int[] row, int i, int v) {
        int was = row[i];
        row[i] = v;
        return was;
    }

    private long tradesAndWeeks(String name, int[] a) {
        switch (name) {
            case "buy":
                int bought = now.trade(a, true);
                return bought < 0 ? bought : now.money[a[0]];
            case "pluck":
                int plucked = now.trade(a, false);
                return plucked < 0 ? plucked : now.shares.get(a[2])[a[0]];
            case "weeks":
                if (!in(a[0], 0, 30)) {
                    return BAD;
                }
                if (now.week + a[0] >= 1000) {
                    return FULL;
                }
                int laid = 0;
                for (int i = 0; i < a[0]; i++) {
                    laid += now.goWeek();
                }
                return laid;
            case "runs": return in(a[0], 0, 2) ? byThePlan(now.copy(), NONE)[a[0]] : BAD;
            default:
                Land then = now.copy();
                byThePlan(then, NONE);
                return owner(then, a[0], a[1]);
        }
    }

    private static int[] byThePlan(Land land, int leftOut) {
        int[] told = {0, NONE, 0};
        for (int i = 0; i < land.plan.size(); i++) {
            int cost = i == leftOut ? 0 : land.trade(land.plan.get(i), true);
            if (cost >= 0) {
                told[0]++;
                told[2] += cost;
            } else if (told[1] == NONE) {
                told[1] = i;
            }
        }
        return told;
    }

    private long byWeeks(String name, int[] a) {
        switch (name) {
            case "later": return goose(a[0]) && in(a[1], 0, 4) && in(a[2], 0, 60) ? behind(a[2]).shares.get(a[0])[a[1]] : BAD;
            case "eggs": return in(a[0], 0, 4) && in(a[1], 0, 60) ? behind(a[1]).eggs[a[0]] : BAD;
            case "bare":
                if (!goose(a[0]) || !in(a[1], 0, 495)) {
                    return BAD;
                }
                for (int n = 0; n <= 60; n++) {
                    if (behind(n).feathers(a[0]) <= a[1]) {
                        return n;
                    }
                }
                return NONE;
            case "rich":
                if (!in(a[0], 0, 60) || !in(a[1], 0, 1)) {
                    return BAD;
                }
                Land then = behind(a[0]);
                int richest = 4;
                for (int o = 3; o >= 0; o--) {
                    richest = then.worth(o) >= then.worth(richest) ? o : richest;
                }
                return a[1] == 0 ? richest : then.worth(richest);
            default:
                if (!goose(a[0])) {
                    return BAD;
                }
                for (int n = 1; n <= 60; n++) {
                    if (behind(n).egg(a[0]) != now.egg(a[0])) {
                        return n;
                    }
                }
                return NONE;
        }
    }

    private long need(int o, int g, int what) {
        if (!in(o, 0, 4) || !goose(g) || !in(what, 0, 1)) {
            return BAD;
        }
        if (now.egg(g) == o) {
            return STATE;
        }
        for (int n = 1; n <= 9; n++) {
            for (int s = 0; s < 5; s++) {
                Land then = now.copy();
                int cost = then.trade(new int[] {o, s, g, n}, true);
                if (cost >= 0 && then.egg(g) == o) {
                    return what == 0 ? 10 * s + n : cost;
                }
            }
        }
        return NONE;
    }

    private long best(int o, int n, int what) {
        if (!in(o, 0, 4) || !in(n, 0, 2) || !in(what, 0, 2) && !in(what, 10, 11)) {
            return BAD;
        }
        int[] best = {Integer.bitCount(now.eggBits(o)), 0, 0, NONE, NONE};
        for (int first = 1; first < 430 && n > 0; first++) {
            Land one = now.copy();
            int cost = one.trade(new int[] {o, first / 100, first / 10 % 10, first % 10}, true);
            if (cost >= 0) {
                best = better(best, new int[] {Integer.bitCount(one.eggBits(o)), cost, 1, first, NONE});
                for (int second = 1; second < 430 && n > 1; second++) {
                    if (second % 10 == 0 || second / 10 % 10 >= now.geese.size()) {
                        continue;
                    }
                    Land two = one.copy();
                    int more = two.trade(new int[] {o, second / 100, second / 10 % 10, second % 10}, true);
                    if (more >= 0) {
                        best = better(best, new int[] {Integer.bitCount(two.eggBits(o)), cost + more, 2, first, second});
                    }
                }
            }
        }
        return best[what < 10 ? what : what - 7];
    }

    private static int[] better(int[] old, int[] other) {
        int[] signs = {-1, 1, 1};
        for (int i = 0; i < 3; i++) {
            if (old[i] != other[i]) {
                return signs[i] * other[i] < signs[i] * old[i] ? other : old;
            }
        }
        return old;
    }

    private long leave(int o, int what) {
        if (!in(o, 0, 4) || !in(what, 0, 1)) {
            return BAD;
        }
        Land asItIs = now.copy();
        byThePlan(asItIs, NONE);
        int most = asItIs.worth(o);
        int out = NONE;
        for (int i = 0; i < now.plan.size(); i++) {
            Land then = now.copy();
            byThePlan(then, i);
            if (then.worth(o) > most) {
                most = then.worth(o);
                out = i;
            }
        }
        return what == 0 || out == NONE ? out : most;
    }

    private long votes(String name, int[] a) {
        if (!goose(a[0]) || !in(a[1], 0, 4)) {
            return BAD;
        }
        if (name.equals("swings")) {
            return swings(a[0], a[1]);
        }
        if (name.equals("power")) {
            int all = 0;
            for (int o = 0; o < 5; o++) {
                all += swings(a[0], o);
            }
            return in(a[2], 0, 1) ? lowest(BigInteger.valueOf(swings(a[0], a[1])), BigInteger.valueOf(Math.max(1, all)), a[2]) : BAD;
        }
        for (int v = 0; v <= 99; v++) {
            Land then = now.copy();
            then.shares.get(a[0])[a[1]] = v;
            if (v > then.feathers(a[0]) - v) {
                return v;
            }
        }
        return NONE;
    }

    private int swings(int g, int o) {
        int sets = 0;
        for (int set = 0; set < 32; set++) {
            int votes = 0;
            for (int other = 0; other < 5; other++) {
                votes += (set & 1 << other) != 0 ? now.shares.get(g)[other] : 0;
            }
            boolean inPower = votes * 2 > now.feathers(g);
            boolean withHim = (votes + now.shares.get(g)[o]) * 2 > now.feathers(g);
            sets += (set & 1 << o) == 0 && !inPower && withHim ? 1 : 0;
        }
        return sets;
    }

    private static long lowest(BigInteger over, BigInteger under, int what) {
        return (what == 0 ? over : under).divide(over.gcd(under)).longValueExact();
    }

    /** luck() of an owner, mean() where that is NONE; each week by itself moults or does not. */
    private long odds(int v, int g, int o, int n, int what) {
        if (!in(v, 0, 10) || !goose(g) || !in(n, 0, 8) || !in(what, 0, 1)) {
            return BAD;
        }
        BigInteger sum = BigInteger.ZERO;
        for (int way = 0; way < 1 << n; way++) {
            int moults = Integer.bitCount(way);
            Land then = behind(moults);
            long value = o == NONE ? then.feathers(g) : then.egg(g) == o ? 1 : 0;
            BigInteger weight = BigInteger.valueOf(v).pow(moults).multiply(BigInteger.valueOf(10 - v).pow(n - moults));
            sum = sum.add(weight.multiply(BigInteger.valueOf(value)));
        }
        return lowest(sum, BigInteger.TEN.pow(n), what);
    }

    private long seen(String name, int[] a) {
        if (name.equals("see")) {
            if (!goose(a[0]) || !in(a[1], 0, 4) || !in(a[2], 0, 20) || !in(a[3], 0, 99)) {
                return BAD;
            }
            if (seen.size() == 6) {
                return FULL;
            }
            seen.add(a.clone());
            return seen.size();
        }
        int had = seen.size();
        if (!in(a[0], 0, had)) {
            return BAD;
        }
        seen.subList(a[0], had).clear();
        return had;
    }

    private int asSeen(int g, int what, int bound) {
        int bits = 0;
        int own = now.geese.get(g)[what];
        for (int v = 0; v < bound; v++) {
            now.geese.get(g)[what] = v;
            boolean all = true;
            for (int[] s : seen) {
                all = all && behind(s[2]).shares.get(s[0])[s[1]] == s[3];
            }
            bits |= all ? 1 << v : 0;
        }
        now.geese.get(g)[what] = own;
        return bits;
    }

    private long look(int g, int what) {
        if (!goose(g) || !in(what, 0, 1)) {
            return BAD;
        }
        int kinds = asSeen(g, 0, 4);
        int fewest = Integer.bitCount(kinds);
        int where = NONE;
        int own = now.geese.get(g)[0];
        for (int n = 0; n <= 20; n++) {
            int[][] told = new int[5][100];
            for (int kind = 0; kind < 4; kind++) {
                now.geese.get(g)[0] = kind;
                Land then = behind(n);
                for (int o = 0; o < 5; o++) {
                    told[o][then.shares.get(g)[o]] += kinds >> kind & 1;
                }
            }
            for (int o = 0; o < 5; o++) {
                int worst = Arrays.stream(told[o]).max().getAsInt();
                if (worst < fewest) {
                    fewest = worst;
                    where = 10 * n + o;
                }
            }
        }
        now.geese.get(g)[0] = own;
        return what == 0 || where == NONE ? where : fewest;
    }

    private long drift(int seed, int n, int what) {
        if (!in(n, 1, 60) || !in(what, 0, 1)) {
            return BAD;
        }
        if (now.geese.isEmpty()) {
            return STATE;
        }
        Land then = now.copy();
        BigInteger becomes = BigInteger.valueOf(seed);
        int laid = 0;
        int came = 0;
        for (int i = 0; i < n; i++) {
            becomes = becomes.multiply(BigInteger.valueOf(1103515245)).add(BigInteger.valueOf(12345));
            int got = becomes.shiftRight(16).mod(BigInteger.valueOf(1 << 15)).intValue();
            if (then.trade(new int[] {got / 4 % 5, got / 32 % 5, got % now.geese.size(), 1 + got / 256 % 9}, true) >= 0) {
                came++;
            } else {
                laid += then.goWeek();
            }
        }
        return what == 0 ? laid : came;
    }

    private long ofImages(String name, int k) {
        if (!in(k, 0, 1)) {
            return BAD;
        }
        if (name.equals("keep")) {
            int was = images[k] == null ? 0 : 1;
            images[k] = now.copy();
            return was;
        }
        if (images[k] == null) {
            return STATE;
        }
        now = images[k].copy();
        return now.week;
    }

    private long ofSheets(String name, int[] a) {
        switch (name) {
            case "sheet":
                if (!in(a[0], 0, 3) || !in(a[1], 0, 2) || a[2] > 40) {
                    return BAD;
                }
                if (a[2] < 0) {
                    return -14;
                }
                sheets[a[0]] = new int[a[2]];
                lanes[a[0]] = a[1];
                return 1;
            case "lay":
                if (!in(a[0], 0, 3)) {
                    return BAD;
                }
                int[] row = sheets[a[0]];
                if (row == null) {
                    return -11;
                }
                if (!in(a[1], 0, row.length - 1)) {
                    return -12;
                }
                row[a[1]] = lanes[a[0]] == 0 ? (byte) a[2] : lanes[a[0]] == 1 ? (short) a[2] : a[2];
                return 1;
            case "read": return read(a[0], a[1], a[2], a[3]);
            default: return torn;
        }
    }

    private long read(int k, int lane, int f, int n) {
        if (!in(k, 0, 3) || !in(lane, 0, 2) || !in(n, 0, 10)) {
            return BAD;
        }
        Land then = now.copy();
        int found = 0;
        int came = 0;
        for (int i = 0; i < n && found == 0; i++) {
            long first = f + 4L * i;
            if (sheets[k] == null) {
                found = 1;
            } else if (lanes[k] != lane) {
                found = 3;
            } else if (first < 0 || first + 3 >= sheets[k].length) {
                found = 2;
            } else if (then.trade(Arrays.copyOfRange(sheets[k], (int) first, (int) first + 4), true) < 0) {
                return -20 - i;
            } else {
                came++;
            }
        }
        now = then;
        torn = found;
        return came;
    }

    private long count(int what) {
        int all = 0;
        for (int g = 0; g < now.geese.size(); g++) {
            all += now.feathers(g);
        }
        int kept = (images[0] == null ? 0 : 1) + (images[1] == null ? 0 : 1);
        int planned = now.plan.stream().mapToInt(t -> t[3]).sum();
        int[] told = {seen.size(), kept, tape.length(), sheets[0] == null ? NONE : sheets[0].length, all, planned};
        return in(what, 0, 5) ? told[what] : BAD;
    }
}
