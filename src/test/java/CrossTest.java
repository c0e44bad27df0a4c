import java.util.Random;

/** What the object foretells against what comes when the same is done step by step, in many worlds by a seed. */
public final class CrossTest {
    private static final int STATE = FeatherShares.STATE, NONE = FeatherShares.NONE;
    private static final int WORLDS = 150;

    private final Random random;
    private final FeatherShares x;
    private final int geese;

    private CrossTest(int seed) {
        random = new Random(seed);
        geese = 1 + random.nextInt(3);
        StringBuilder text = new StringBuilder();
        String[] names = {"plain", "moulter", "swan", "drake"};
        for (int g = 0; g < geese; g++) {
            text.append(names[random.nextInt(4)]).append(' ').append(random.nextInt(5));
            text.append(' ').append(1 + random.nextInt(9)).append(';');
        }
        x = Check.of(text.toString());
        int mostFeathers = random.nextBoolean() ? 100 : 25;
        for (int g = 0; g < geese; g++) {
            for (int o = 0; o < 5; o++) {
                x.grant(g, o, random.nextInt(3) == 0 ? 0 : random.nextInt(mostFeathers));
            }
        }
        for (int o = 0; o < 5; o++) {
            x.purse(o, random.nextInt(4) == 0 ? 900 + random.nextInt(100) : random.nextInt(150));
        }
        for (int i = 0; i < 6; i++) {
            int b = random.nextInt(5);
            x.plan(b, (b + 1 + random.nextInt(4)) % 5, random.nextInt(geese), 1 + random.nextInt(9));
        }
        x.weeks(random.nextInt(2));
        x.keep(0);
    }

    public static void main(String[] args) {
        for (int seed = 0; seed < WORLDS; seed++) {
            CrossTest world = new CrossTest(seed);
            world.aWeek();
            world.byWeeks();
            world.byThePlan();
            world.need();
            if (seed % 5 == 0) {
                world.best();
            }
            world.votes();
            world.odds();
            world.seen();
            world.look();
        }
        Check.end("CrossTest");
    }

    private static int lossOf(int kind, int share) {
        int eighth = share / 8;
        int moulter = 2 * eighth + 1 > share ? share : 2 * eighth + 1;
        if (kind == 0) {
            return eighth;
        }
        if (kind == 1) {
            return moulter;
        }
        return kind == 2 ? moulter / 2 : eighth == 0 ? 0 : eighth - 1;
    }

    /** Whose the egg is, by the words of the document. */
    private int eggOf(int g) {
        int most = 0;
        for (int o = 0; o < 5; o++) {
            most = Math.max(most, x.share(g, o));
        }
        if (most == 0) {
            return NONE;
        }
        if (x.share(g, x.goose(g, 1)) == most) {
            return x.goose(g, 1);
        }
        int o = 0;
        while (x.share(g, o) != most) {
            o++;
        }
        return o;
    }

    private void aWeek() {
        for (int g = 0; g < geese; g++) {
            x.back(0);
            int[] due = new int[5];
            int all = 0;
            for (int o = 0; o < 5; o++) {
                int lost = lossOf(x.goose(g, 0), x.share(g, o));
                due[o] = x.share(g, o) - lost;
                all += lost;
            }
            int skin = x.goose(g, 1);
            due[skin] = Math.min(99, due[skin] + all / 2 + all % 2);
            Check.is("egg", x.goose(g, 4), eggOf(g));
            x.weeks(1);
            for (int o = 0; o < 5; o++) {
                Check.is("share behind a week", x.share(g, o), due[o]);
            }
        }
    }

    private void byWeeks() {
        x.back(0);
        int v = random.nextInt(200);
        int[] bare = {x.bare(0, v), NONE};
        int[] turn = {x.turn(0), NONE};
        int eggNow = eggOf(0);
        for (int n = 0; n <= 60; n++) {
            x.back(0);
            for (int i = 0; i < n; i += 30) {
                x.weeks(Math.min(30, n - i));
            }
            int richest = 0;
            for (int o = 0; o < 5; o++) {
                int shareThen = x.share(geese - 1, o);
                int eggsThen = x.owner(o, 1);
                int worth = x.owner(o, 2);
                richest = worth > x.owner(richest, 2) ? o : richest;
                x.keep(1);
                x.back(0);
                Check.is("later", x.later(geese - 1, o, n), shareThen);
                Check.is("eggs", x.eggs(o, n), eggsThen);
                x.back(1);
            }
            int worth = x.owner(richest, 2);
            bare[1] = bare[1] == NONE && x.goose(0, 3) <= v ? n : bare[1];
            turn[1] = turn[1] == NONE && eggOf(0) != eggNow ? n : turn[1];
            x.back(0);
            Check.is("rich", x.rich(n, 0), richest);
            Check.is("rich worth", x.rich(n, 1), worth);
        }
        Check.is("bare", bare[0], bare[1]);
        Check.is("turn", turn[0], turn[1]);
    }

    private void byThePlan() {
        x.back(0);
        int[] due = {x.runs(0), x.runs(1), x.runs(2)};
        int[] aheadDue = new int[20];
        for (int i = 0; i < 20; i++) {
            aheadDue[i] = x.ahead(i / 4, i % 4);
        }
        int came = 0;
        int passed = NONE;
        int money = 0;
        for (int i = 0; i < x.rule(2); i++) {
            int g = x.trade(i, 2);
            if (x.buy(x.trade(i, 0), x.trade(i, 1), g, x.trade(i, 3)) >= 0) {
                came++;
                money += x.trade(i, 3) * x.goose(g, 2);
            } else if (passed == NONE) {
                passed = i;
            }
        }
        Check.is("came", due[0], came);
        Check.is("passed", due[1], passed);
        Check.is("money", due[2], money);
        for (int i = 0; i < 20; i++) {
            Check.is("ahead", aheadDue[i], x.owner(i / 4, i % 4));
        }
        for (int o = 0; o < 5; o++) {
            Check.is("leave", x.leave(o, random.nextInt(2)), NONE);
        }
    }

    private void need() {
        for (int o = 0; o < 5; o++) {
            x.back(0);
            int g = random.nextInt(geese);
            int due = eggOf(g) == o ? STATE : NONE;
            int money = due;
            for (int n = 1; n <= 9 && due == NONE; n++) {
                for (int s = 0; s < 5 && due == NONE; s++) {
                    x.back(0);
                    if (x.buy(o, s, g, n) >= 0 && eggOf(g) == o) {
                        due = 10 * s + n;
                        money = n * x.goose(g, 2);
                    }
                }
            }
            x.back(0);
            Check.is("need", x.need(o, g, 0), due);
            Check.is("need money", x.need(o, g, 1), money);
        }
    }

    private boolean buyByCode(int o, int code) {
        return code == 0 || x.buy(o, code / 100, code / 10 % 10, code % 10) >= 0;
    }

    /** All rows of two, where 0 stands for no trade (then the second is none either). */
    private void best() {
        int o = random.nextInt(5);
        for (int n = 0; n <= 2; n++) {
            long[] best = {-1, 0, 0, NONE, NONE};
            for (int first = 0; first <= (n == 0 ? 0 : 429); first++) {
                x.back(0);
                if (!buyByCode(o, first)) {
                    continue;
                }
                for (int second = 0; second <= (n < 2 || first == 0 ? 0 : 429); second++) {
                    x.back(0);
                    buyByCode(o, first);
                    if (buyByCode(o, second)) {
                        weigh(best, o, first, second);
                    }
                }
            }
            x.back(0);
            int[] whats = {0, 1, 2, 10, 11};
            for (int i = 0; i < 5; i++) {
                Check.is("best(" + o + ", " + n + ", " + whats[i] + ")", x.best(o, n, whats[i]), best[i]);
            }
        }
    }

    private void weigh(long[] best, int o, int first, int second) {
        int eggs = 0;
        for (int g = 0; g < geese; g++) {
            eggs += eggOf(g) == o ? 1 : 0;
        }
        int money = (first % 10) * priceOf(first) + (second % 10) * priceOf(second);
        int length = (first > 0 ? 1 : 0) + (second > 0 ? 1 : 0);
        boolean better = eggs > best[0] || eggs == best[0] && (money < best[1] || money == best[1] && length < best[2]);
        if (better) {
            best[0] = eggs;
            best[1] = money;
            best[2] = length;
            best[3] = first > 0 ? first : NONE;
            best[4] = second > 0 ? second : NONE;
        }
    }

    private int priceOf(int code) {
        return code == 0 ? 0 : x.goose(code / 10 % 10, 2);
    }

    private void votes() {
        x.back(0);
        int g = random.nextInt(geese);
        int all = 0;
        int[] due = new int[5];
        for (int o = 0; o < 5; o++) {
            for (int set = 0; set < 32; set++) {
                if ((set & 1 << o) == 0 && !inPower(g, set) && inPower(g, set | 1 << o)) {
                    due[o]++;
                    all++;
                }
            }
        }
        for (int o = 0; o < 5; o++) {
            Check.is("swings", x.swings(g, o), due[o]);
            Check.is("power", x.power(g, o, 0) * Math.max(all, 1), x.power(g, o, 1) * due[o]);
            Check.is("lowest terms", divisor(x.power(g, o, 0), x.power(g, o, 1)), 1);
            int reign = x.reign(g, o);
            int least = NONE;
            int was = x.share(g, o);
            for (int v = 99; v >= 0; v--) {
                x.grant(g, o, v);
                least = inPower(g, 1 << o) ? v : least;
            }
            x.grant(g, o, was);
            Check.is("reign", reign, least);
        }
    }

    private boolean inPower(int g, int set) {
        int votes = 0;
        for (int o = 0; o < 5; o++) {
            votes += (set >> o & 1) == 1 ? x.share(g, o) : 0;
        }
        return votes > x.goose(g, 3) - votes;
    }

    private static long divisor(long a, long b) {
        return b == 0 ? a : divisor(b, a % b);
    }

    /** By all the 2 to the n ways in which the weeks may come. */
    private void odds() {
        int v = random.nextInt(11);
        int n = random.nextInt(9);
        int g = random.nextInt(geese);
        int o = random.nextInt(5);
        long lucky = 0;
        long feathers = 0;
        long all = 0;
        for (int way = 0; way < 1 << n; way++) {
            x.back(0);
            long weight = 1;
            for (int i = 0; i < n; i++) {
                boolean moults = (way >> i & 1) == 1;
                weight *= moults ? v : 10 - v;
                x.weeks(moults ? 1 : 0);
            }
            all += weight;
            lucky += x.goose(g, 4) == o ? weight : 0;
            feathers += weight * x.goose(g, 3);
        }
        x.back(0);
        Check.is("luck", x.luck(v, g, o, n, 0), lucky / divisor(lucky, all));
        Check.is("luck, below", x.luck(v, g, o, n, 1), all / divisor(lucky, all));
        Check.is("mean", x.mean(v, g, n, 0), feathers / divisor(feathers, all));
        Check.is("mean, below", x.mean(v, g, n, 1), all / divisor(feathers, all));
    }

    /** Sees what comes if one goose were another, then asks for that. */
    private void seen() {
        int g = random.nextInt(geese);
        for (int turn = 0; turn < 2; turn++) {
            x.back(0);
            x.forget(x.count(0));
            x.forget(0);
            int[][] told = new int[random.nextInt(4)][];
            x.alter(g, turn, random.nextInt(turn == 0 ? 4 : 5));
            for (int i = 0; i < told.length; i++) {
                int of = random.nextInt(3) == 0 ? random.nextInt(geese) : g;
                int o = random.nextInt(5);
                int n = random.nextInt(4) == 0 ? 20 : random.nextInt(6);
                told[i] = new int[] {of, o, n, x.later(of, o, n)};
                x.see(of, o, n, told[i][3]);
            }
            x.back(0);
            int due = 0;
            for (int v = 0; v < (turn == 0 ? 4 : 5); v++) {
                x.alter(g, turn, v);
                boolean all = true;
                for (int[] t : told) {
                    all &= x.later(t[0], t[1], t[2]) == t[3];
                }
                due |= all ? 1 << v : 0;
            }
            x.back(0);
            Check.is(turn == 0 ? "kinds" : "skins", turn == 0 ? x.kinds(g) : x.skins(g), due);
        }
    }

    private void look() {
        x.back(0);
        x.forget(random.nextInt(Math.min(2, x.count(0) + 1)));
        for (int g = 0; g < geese; g++) {
            int possible = x.kinds(g);
            int fewest = Integer.bitCount(possible);
            int where = NONE;
            for (int at = 0; at <= 204; at++) {
                if (at % 10 > 4) {
                    continue;
                }
                int[] groups = new int[100];
                int worst = 0;
                for (int kind = 0; kind < 4; kind++) {
                    if ((possible >> kind & 1) == 1) {
                        x.alter(g, 0, kind);
                        worst = Math.max(worst, ++groups[x.later(g, at % 10, at / 10)]);
                    }
                }
                if (worst < fewest) {
                    fewest = worst;
                    where = at;
                }
            }
            x.back(0);
            Check.is("look", x.look(g, 0), where);
            Check.is("look, how many", x.look(g, 1), where == NONE ? NONE : fewest);
        }
    }
}
