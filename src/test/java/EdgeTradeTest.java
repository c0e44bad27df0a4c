/** The edges of trades, pluckings and weeks, of what comes by the plan and by weeks (promises 16 to 25). */
public final class EdgeTradeTest {
    private static final int BAD = FeatherShares.BAD, STATE = FeatherShares.STATE;
    private static final int FULL = FeatherShares.FULL, NONE = FeatherShares.NONE;
    private static final String[] KINDS = {"plain", "moulter", "swan", "drake"};

    public static void main(String[] args) {
        feathersOfWhoSells();
        feathersOfWhoBuys();
        moneyOfWhoBuys();
        moneyOfWhoSells();
        handsAreChanged();
        pluckings();
        lossOfEachShare();
        growthUpToAll();
        growthIsHalfUp();
        eggsAreLaidAhead();
        weeksOfNone();
        weekIs999AtMost();
        weeksAtOnceOrOneByOne();
        runsOfNoPlan();
        runsPassOver();
        aheadTells();
        byWeeksOfNone();
        byWeeksBehindWeek999();
        laterAtItsMost();
        eggsThatHeHasThen();
        bareAtItsEdges();
        richOfSeveral();
        turnAtItsEdges();
        withoutGeese();
        Check.end("EdgeTradeTest");
    }

    /** Who buys is 3, of whom is 1; the goose is the last of three, so that a mix-up shows. */
    private static FeatherShares market(int price, int buyerHas, int sellerHas, int buyerMoney, int sellerMoney) {
        FeatherShares x = Check.of("plain 0 1;plain 0 1;plain 0 1;");
        x.alter(2, 2, price);
        x.grant(2, 3, buyerHas);
        x.grant(2, 1, sellerHas);
        x.purse(3, buyerMoney);
        x.purse(1, sellerMoney);
        return x;
    }

    /** Whether it can be, by each of the calls that make a trade: all must say the same. */
    private static void canBe(String what, FeatherShares x, int n, boolean due) {
        x.plan(3, 1, 2, n);
        Check.is(what + ", by the plan", x.runs(0), due ? 1 : 0);
        Check.is(what + ", passed over", x.runs(1), due ? NONE : 0);
        x.sheet(0, 0, 4);
        Worlds.layRow(x, 0, 3, 1, 2, n);
        x.keep(0);
        Check.is(what + ", by a sheet", x.read(0, 0, 0, 1), due ? 1 : -20);
        x.back(0);
        int price = x.goose(2, 2);
        int moneyDue = x.owner(3, 0) - n * price;
        int sellerDue = x.owner(1, 0) + n * price;
        int held = x.share(2, 3);
        int sold = x.share(2, 1);
        Check.is(what + ", by buy()", x.buy(3, 1, 2, n), due ? moneyDue : STATE);
        Check.is(what + ", who buys then has", x.share(2, 3), due ? held + n : held);
        Check.is(what + ", who sells then has", x.share(2, 1), due ? sold - n : sold);
        Check.is(what + ", money of who sells", x.owner(1, 0), due ? sellerDue : sellerDue - n * price);
        Check.is(what + ", money of who buys", x.owner(3, 0), due ? moneyDue : moneyDue + n * price);
    }

    private static void feathersOfWhoSells() {
        Check.sentence("A TRADE can be, if who sells has so many feathers of the GOOSE");
        for (int n = 1; n <= 9; n++) {
            canBe(n + " of " + n, market(1, 0, n, 999, 0), n, true);
            canBe(n + " of one less", market(1, 0, n - 1, 999, 0), n, false);
        }
        FeatherShares x = market(1, 0, 0, 999, 0);
        x.grant(1, 1, 99);
        x.grant(2, 0, 99);
        canBe("feathers of another goose, of another owner", x, 1, false);
    }

    private static void feathersOfWhoBuys() {
        Check.sentence("who buys would have 99 at most");
        for (int n = 1; n <= 9; n++) {
            canBe(n + " to 99", market(1, 99 - n, 99, 999, 0), n, true);
            canBe(n + " to 100", market(1, 100 - n, 99, 999, 0), n, false);
        }
        canBe("1 to 100", market(1, 99, 99, 999, 0), 1, false);
        FeatherShares x = market(1, 0, 9, 999, 0);
        x.grant(0, 3, 99);
        x.grant(1, 3, 99);
        canBe("99 of other geese", x, 9, true);
    }

    private static void moneyOfWhoBuys() {
        Check.sentence("has MONEY of so many times its PRICE");
        for (int n = 1; n <= 9; n++) {
            for (int price = 1; price <= 9; price++) {
                canBe(n + " at " + price, market(price, 0, 99, n * price, 0), n, true);
                canBe(n + " at " + price + " with one less", market(price, 0, 99, n * price - 1, 0), n, false);
            }
        }
    }

    private static void moneyOfWhoSells() {
        Check.sentence("who sells would have 999 at most: feathers and MONEY change hands.");
        for (int n = 1; n <= 9; n++) {
            for (int price = 1; price <= 9; price++) {
                canBe(n + " at " + price + " to 999", market(price, 0, 99, 999, 999 - n * price), n, true);
                canBe(n + " at " + price + " to 1000", market(price, 0, 99, 999, 1000 - n * price), n, false);
            }
        }
        canBe("with 999", market(1, 0, 99, 999, 999), 1, false);
    }

    private static void handsAreChanged() {
        Check.sentence("MONEY of who buys then. BAD (also alike); STATE: it can not be.");
        FeatherShares x = market(9, 90, 9, 81, 918);
        Check.is("buy of all", x.buy(3, 1, 2, 9), 0);
        Check.is("99", x.share(2, 3), 99);
        Check.is("0", x.share(2, 1), 0);
        Check.is("999", x.owner(1, 0), 999);
        Check.is("others' money stays", x.owner(0, 0) + x.owner(2, 0) + x.owner(4, 0), 60);
        Check.is("and back again: 1 has 999 to spend", x.buy(1, 3, 2, 9), 918);
        Check.is("81 again", x.owner(3, 0), 81);
        for (int o = 0; o < 5; o++) {
            Check.is("alike " + o, x.buy(o, o, 2, 1), BAD);
        }
        Check.is("all feathers", x.count(4), 99);
    }

    private static void pluckings() {
        Check.sentence("A PLUCKING: likewise, without MONEY.");
        for (int n = 1; n <= 9; n++) {
            for (int[] money : new int[][] {{0, 0}, {0, 999}, {999, 999}}) {
                Check.is("pluck " + n + " of " + n, market(9, 0, n, money[0], money[1]).pluck(3, 1, 2, n), n);
                Check.is("pluck " + n + " of one less", market(9, 0, n - 1, money[0], money[1]).pluck(3, 1, 2, n), STATE);
                Check.is("pluck " + n + " to 99", market(9, 99 - n, 99, money[0], money[1]).pluck(3, 1, 2, n), 99);
                Check.is("pluck " + n + " to 100", market(9, 100 - n, 99, money[0], money[1]).pluck(3, 1, 2, n), STATE);
            }
        }
        Check.sentence("SHARE of who plucks then. BAD (also alike); STATE: it can not be.");
        FeatherShares x = market(9, 90, 9, 0, 999);
        Check.is("pluck of all", x.pluck(3, 1, 2, 9), 99);
        Check.is("0", x.share(2, 1), 0);
        Check.is("money stays", x.owner(3, 0), 0);
        Check.is("money of who is plucked", x.owner(1, 0), 999);
        Check.is("again", x.pluck(3, 1, 2, 1), STATE);
        for (int o = 0; o < 5; o++) {
            Check.is("alike " + o, x.pluck(o, o, 2, 1), BAD);
        }
        Check.is("all feathers", x.count(4), 99);
    }

    private static int lossOf(int kind, int held) {
        int[] eighths = {held / 8, Math.min(held, 2 * (held / 8) + 1), Math.min(held, 2 * (held / 8) + 1) / 2, Math.max(0, held / 8 - 1)};
        return eighths[kind];
    }

    private static void lossOfEachShare() {
        Check.sentence("LOSES by KIND, of a SHARE in a WEEK: plain an eighth (down); moulter 1 more than twice that of a plain one (all at most); swan half of that of a moulter (down); drake 1 less than a plain one (0 at least).");
        for (int kind = 0; kind < 4; kind++) {
            for (int held = 0; held <= 99; held++) {
                FeatherShares x = Check.of(KINDS[kind] + " 4 1;");
                x.grant(0, 2, held);
                Check.is("eggs of a week", x.weeks(1), held > 0 ? 1 : 0);
                int lost = lossOf(kind, held);
                Check.is(KINDS[kind] + " of " + held, x.share(0, 2), held - lost);
                Check.is("it grows", x.share(0, 4), lost / 2 + lost % 2);
            }
        }
        int[][] known = {{0, 7, 0}, {0, 8, 1}, {1, 0, 0}, {1, 1, 1}, {1, 7, 1}, {1, 8, 3}, {1, 99, 25}, {2, 1, 0}, {2, 8, 1},
            {2, 99, 12}, {3, 7, 0}, {3, 8, 0}, {3, 15, 0}, {3, 16, 1}, {3, 99, 11}};
        for (int[] k : known) {
            FeatherShares x = Check.of(KINDS[k[0]] + " 4 1;");
            x.grant(0, 0, k[1]);
            Check.is(KINDS[k[0]] + " of " + k[1] + " behind one", x.later(0, 0, 1), k[1] - k[2]);
        }
    }

    private static void growthUpToAll() {
        Check.sentence("GROWS by half (up) of what all lost of it (99 at most).");
        for (int others = 0; others <= 99; others++) {
            FeatherShares x = Check.of("plain 1 1;share 0 1 99;");
            x.grant(0, 0, others);
            x.grant(0, 3, others);
            int lost = 12 + 2 * (others / 8);
            x.weeks(1);
            Check.is("87 and half of " + lost, x.share(0, 1), Math.min(99, 87 + (lost + 1) / 2));
        }
        FeatherShares x = Check.of("drake 1 1;share 0 1 99;share 0 0 99;");
        Check.is("88 and 11 is 99", x.later(0, 1, 1), 99);
        x.grant(0, 3, 16);
        Check.is("88 and 12 is 99", x.later(0, 1, 1), 99);
        x.grant(0, 0, 79);
        Check.is("88 and 10 (11, 8, 1)", x.later(0, 1, 1), 98);
    }

    private static void growthIsHalfUp() {
        Check.sentence("Then his SHARE whose SKIN it is GROWS by half (up)");
        for (int lost = 0; lost <= 12; lost++) {
            FeatherShares x = Check.of("plain 2 1;");
            x.grant(0, 4, 8 * lost);
            x.weeks(1);
            Check.is("half of " + lost, x.share(0, 2), lost == 0 ? 0 : lost % 2 == 0 ? lost / 2 : (lost + 1) / 2);
            Check.is("who lost", x.share(0, 4), 7 * lost);
        }
        FeatherShares own = Check.of("plain 2 1;share 0 2 8;");
        own.weeks(1);
        Check.is("what he lost himself grows, too", own.share(0, 2), 8);
        FeatherShares two = Check.of("plain 0 1;plain 3 1;share 0 1 16;share 1 1 32;");
        two.weeks(1);
        Check.is("of goose 0", two.share(0, 0), 1);
        Check.is("of goose 1", two.share(1, 3), 2);
        Check.is("not of the other one", two.share(0, 3) + two.share(1, 0), 0);
    }

    private static void eggsAreLaidAhead() {
        Check.sentence("A WEEK, for each GOOSE by order: whose THE EGG is has an EGG more. Then each SHARE is less by what it LOSES (a MOULT).");
        FeatherShares x = Check.of("moulter 0 1;share 0 1 1;");
        Check.is("one is laid", x.weeks(1), 1);
        Check.is("ahead of the moult it is 1's", x.owner(1, 1), 1);
        Check.is("then it is 0's", x.goose(0, 4), 0);
        Check.is("two more", x.weeks(2), 2);
        Check.is("eggs of 0", x.owner(0, 1), 2);
        FeatherShares tie = Check.of("plain 3 1;plain 3 1;plain 0 1;share 0 1 7;share 0 2 7;share 1 1 7;share 1 3 7;");
        Check.is("a bare one lays none", tie.weeks(1), 2);
        Check.is("of several the first's", tie.owner(1, 1), 1);
        Check.is("of several his whose skin it is", tie.owner(3, 1), 1);
        Check.is("2 has none", tie.owner(2, 1), 0);
    }

    private static void weeksOfNone() {
        Check.sentence("n WEEKS (0 to 30): EGGS that are laid in them.");
        FeatherShares x = Check.of("plain 0 1;swan 1 1;drake 2 1;share 0 0 9;share 1 4 9;");
        String before = Worlds.visible(x);
        Check.is("weeks(0)", x.weeks(0), 0);
        Check.same("behind weeks(0)", Worlds.visible(x), before);
        Check.is("weeks(30)", x.weeks(30), 60);
        Check.is("week", x.rule(1), 30);
        Check.is("eggs", x.rule(4), 60);
        Check.is("weeks(31)", x.weeks(31), BAD);
        Check.is("weeks(-1)", x.weeks(-1), BAD);
        Check.is("of no geese", new FeatherShares().weeks(30), 0);
        Check.is("of bare geese", Worlds.ALL[4].make().weeks(30), 0);
    }

    private static void weekIs999AtMost() {
        Check.sentence("FULL: WEEK would be 1000 or more.");
        for (int n = 0; n <= 30; n++) {
            FeatherShares x = new FeatherShares();
            for (int i = 0; i < 33; i++) {
                x.weeks(30);
            }
            Check.is("weeks(" + n + ") at 990", x.weeks(n), n <= 9 ? 0 : FULL);
            Check.is("week", x.rule(1), n <= 9 ? 990 + n : 990);
            for (int more = 0; more <= 9; more++) {
                x.weeks(1);
            }
            Check.is("week 999", x.rule(1), 999);
            Check.is("weeks(1) at 999", x.weeks(1), FULL);
            Check.is("weeks(0) at 999", x.weeks(0), 0);
        }
        FeatherShares x = Check.of("moulter 0 1;share 0 1 99;");
        for (int i = 0; i < 33; i++) {
            x.weeks(30);
        }
        x.grant(0, 1, 99);
        x.weeks(8);
        String before = Worlds.visible(x);
        Check.is("two more", x.weeks(2), FULL);
        Check.same("none of them came", Worlds.visible(x), before);
        Check.is("one more", x.weeks(1), 1);
        x.keep(0);
        Check.is("an image of 999", x.back(0), 999);
        x.end(0);
        x.text();
        Check.is("0 behind a text", x.weeks(30), 0);
    }

    private static void weeksAtOnceOrOneByOne() {
        Check.sentence("WEEK is 1 more.");
        for (int n = 0; n <= 30; n++) {
            FeatherShares atOnce = Worlds.ALL[0].make();
            FeatherShares oneByOne = Worlds.ALL[0].make();
            int laid = 0;
            for (int i = 0; i < n; i++) {
                laid += oneByOne.weeks(1);
                Check.is("week", oneByOne.rule(1), 3 + i);
            }
            Check.is("eggs of " + n, atOnce.weeks(n), laid);
            Check.same(n + " weeks", Worlds.visible(atOnce), Worlds.visible(oneByOne));
        }
    }

    private static void runsOfNoPlan() {
        Check.sentence("how many TRADES came (what 0), the first that is passed over (1: its place, from 0 on; NONE), MONEY that changed hands (2). BAD.");
        for (FeatherShares x : new FeatherShares[] {new FeatherShares(), Worlds.ALL[4].make()}) {
            Check.is("runs(0)", x.runs(0), 0);
            Check.is("runs(1)", x.runs(1), NONE);
            Check.is("runs(2)", x.runs(2), 0);
            Check.is("runs(3)", x.runs(3), BAD);
            Check.is("runs(-1)", x.runs(-1), BAD);
        }
        FeatherShares x = Check.of("plain 0 9;share 0 1 54;money 0 0;");
        x.purse(0, 6 * 81);
        for (int i = 1; i <= 6; i++) {
            x.plan(0, 1, 0, 9);
            Check.is("all came", x.runs(0), i);
            Check.is("none is passed over", x.runs(1), NONE);
            Check.is("money", x.runs(2), 81 * i);
        }
        x.purse(0, 6 * 81 - 1);
        Check.is("but the last", x.runs(0), 5);
        Check.is("it is passed over", x.runs(1), 5);
        Check.is("its money not", x.runs(2), 405);
    }

    private static void runsPassOver() {
        Check.sentence("those that can not be are passed over.");
        FeatherShares x = Check.of("plain 0 1;share 0 1 5;trade 2 1 0 9;trade 2 1 0 4;trade 2 1 0 2;trade 2 1 0 1;trade 1 2 0 5;");
        Check.is("4, 1 and 5 back", x.runs(0), 3);
        Check.is("the first that is passed over", x.runs(1), 0);
        Check.is("money of 4, 1 and 5", x.runs(2), 10);
        x.cut(3);
        Check.is("one of three", x.runs(0), 1);
        x.grant(0, 1, 9);
        Check.is("9 from now on", x.runs(0), 1);
        Check.is("the second is passed over then", x.runs(1), 1);
        Check.is("nothing is changed", x.share(0, 1), 9);
        Check.is("the plan stays", x.rule(2), 3);
        Check.is("week stays", x.rule(1), 0);
        x.grant(0, 1, 0);
        Check.is("none", x.runs(0), 0);
        Check.is("the first", x.runs(1), 0);
        Check.is("no money", x.runs(2), 0);
    }

    private static void aheadTells() {
        Check.sentence("BY THE PLAN, of an OWNER then, as owner(). BAD.");
        FeatherShares x = Worlds.ALL[0].make();
        for (int i = 0; i < 2; i++) {
            int[] due = new int[20];
            for (int at = 0; at < 20; at++) {
                due[at] = x.ahead(at / 4, at % 4);
            }
            x.keep(1);
            for (int t = 0; t < x.rule(2); t++) {
                x.buy(x.trade(t, 0), x.trade(t, 1), x.trade(t, 2), x.trade(t, 3));
            }
            for (int at = 0; at < 20; at++) {
                Check.is("ahead(" + at / 4 + ", " + at % 4 + ")", due[at], x.owner(at / 4, at % 4));
            }
            x.back(1);
            x.cut(0);
        }
        for (int at = 0; at < 20; at++) {
            Check.is("without a plan as owner()", x.ahead(at / 4, at % 4), x.owner(at / 4, at % 4));
            Check.is("of a new object", new FeatherShares().ahead(at / 4, at % 4), new FeatherShares().owner(at / 4, at % 4));
        }
        Check.is("ahead(0, 4)", x.ahead(0, 4), BAD);
        Check.is("ahead(5, 0)", x.ahead(5, 0), BAD);
    }

    private static void byWeeksOfNone() {
        Check.sentence("BY WEEKS: as it would be from now on.");
        for (Worlds.World world : Worlds.ALL) {
            FeatherShares x = world.make();
            String before = Worlds.visible(x);
            for (int o = 0; o < 5; o++) {
                for (int g = 0; g < world.geese(); g++) {
                    Check.is("later of 0 weeks", x.later(g, o, 0), x.share(g, o));
                }
                Check.is("eggs of 0 weeks", x.eggs(o, 0), x.owner(o, 1));
            }
            int richest = x.rich(0, 0);
            Check.is("rich of 0 weeks", x.rich(0, 1), x.owner(richest, 2));
            x.later(0, 0, 60);
            x.eggs(0, 60);
            x.rich(60, 0);
            x.bare(0, 0);
            x.turn(0);
            Check.same(world.name() + ", nothing is changed", Worlds.visible(x), before);
        }
    }

    private static void byWeeksBehindWeek999() {
        Check.sentence("BY WEEKS, n of them (0 to 60): SHARE of an OWNER of a GOOSE then. BAD.");
        FeatherShares late = Check.of("moulter 0 2;share 0 1 99;");
        for (int i = 0; i < 33; i++) {
            late.weeks(30);
        }
        late.weeks(9);
        late.grant(0, 1, 99);
        late.grant(0, 0, 0);
        FeatherShares early = Check.of("moulter 0 2;share 0 1 99;");
        for (int n = 0; n <= 60; n++) {
            Check.is("later at week 999", late.later(0, 1, n), early.later(0, 1, n));
            Check.is("rich at week 999", late.rich(n, 1), early.rich(n, 1));
        }
        Check.is("bare at week 999", late.bare(0, 60), early.bare(0, 60));
        Check.is("turn at week 999", late.turn(0), early.turn(0));
        Check.is("eggs at week 999", late.eggs(0, 60) + late.eggs(1, 60), 999 + 60);
    }

    private static void laterAtItsMost() {
        Check.sentence("n of them (0 to 60)");
        FeatherShares x = Check.of("plain 0 1;share 0 1 99;share 0 2 99;");
        FeatherShares step = Check.of("plain 0 1;share 0 1 99;share 0 2 99;");
        for (int n = 1; n <= 60; n++) {
            step.weeks(1);
            for (int o = 0; o < 5; o++) {
                Check.is("later(0, " + o + ", " + n + ")", x.later(0, o, n), step.share(0, o));
                Check.is("eggs(" + o + ", " + n + ")", x.eggs(o, n), step.owner(o, 1));
            }
        }
        Check.is("later of 61", x.later(0, 0, 61), BAD);
        Check.is("later of -1", x.later(0, 0, -1), BAD);
        Check.is("eggs of 61", x.eggs(0, 61), BAD);
        Check.is("eggs of -1", x.eggs(0, -1), BAD);
        Check.is("rich of 61", x.rich(61, 0), BAD);
        Check.is("rich of -1", x.rich(-1, 0), BAD);
    }

    private static void eggsThatHeHasThen() {
        Check.sentence("BY WEEKS, n of them (0 to 60): EGGS that an OWNER has then. BAD.");
        FeatherShares x = Check.of("moulter 0 1;plain 2 1;share 0 1 1;share 1 1 7;");
        for (int gone = 0; gone < 3; gone++) {
            for (int n = 0; n <= 60; n++) {
                int weeks = gone + n;
                Check.is("of 1: of one goose the first egg alone", x.eggs(1, n), weeks + Math.min(1, weeks));
                Check.is("of 0: the later ones", x.eggs(0, n), Math.max(0, weeks - 1));
                Check.is("of 2: none", x.eggs(2, n), 0);
            }
            Check.is("one week", x.weeks(1), 2);
        }
        Check.is("eggs(5, 0)", x.eggs(5, 0), BAD);
        Check.is("eggs(-1, 0)", x.eggs(-1, 0), BAD);
        Check.is("eggs(0, 61)", x.eggs(0, 61), BAD);
        Check.is("eggs(0, -1)", x.eggs(0, -1), BAD);
    }

    private static void bareAtItsEdges() {
        Check.sentence("behind how many (0 to 60) a GOOSE has v feathers (0 to 495) or fewer first. BAD; NONE: behind none.");
        FeatherShares full = Worlds.ALL[3].make();
        Check.is("v 495 of 495", full.bare(0, 495), 0);
        Check.is("v 494 of 495", full.bare(0, 494), 1);
        Check.is("v 496", full.bare(0, 496), BAD);
        Check.is("v -1", full.bare(0, -1), BAD);
        Check.is("v 0", full.bare(0, 0), NONE);
        Check.is("v 0 of none", Worlds.ALL[4].make().bare(2, 0), 0);
        FeatherShares slow = Check.of("swan 3 1;share 0 0 96;share 0 1 99;share 0 2 95;share 0 3 95;share 0 4 99;");
        FeatherShares step = Check.of("swan 3 1;share 0 0 96;share 0 1 99;share 0 2 95;share 0 3 95;share 0 4 99;");
        int[] first = new int[496];
        java.util.Arrays.fill(first, NONE);
        for (int n = 0; n <= 60; n++) {
            for (int v = step.goose(0, 3); v <= 495; v++) {
                first[v] = first[v] == NONE ? n : first[v];
            }
            step.weeks(1);
        }
        for (int v = 0; v <= 495; v++) {
            if (v == 300) {
                slow = Check.of("swan 3 1;share 0 0 96;share 0 1 99;share 0 2 95;share 0 3 95;share 0 4 99;");
            }
            Check.is("bare(0, " + v + ")", slow.bare(0, v), first[v]);
        }
        Check.is("the last that comes", first[43], 55);
        Check.is("none behind it", first[42], NONE);
    }

    private static void richOfSeveral() {
        Check.sentence("the OWNER of most WORTH then, of several the first (what 0), that WORTH (1). BAD.");
        for (int set = 1; set < 32; set++) {
            FeatherShares x = new FeatherShares();
            int first = NONE;
            for (int o = 4; o >= 0; o--) {
                boolean most = (set >> o & 1) == 1;
                x.purse(o, most ? 999 : 998);
                first = most ? o : first;
            }
            Check.is("first of " + set, x.rich(60, 0), first);
            Check.is("worth", x.rich(0, 1), 999);
        }
        FeatherShares none = new FeatherShares();
        for (int o = 0; o < 5; o++) {
            none.purse(o, 0);
        }
        Check.is("all have nothing", none.rich(0, 0), 0);
        Check.is("that worth", none.rich(0, 1), 0);
        Check.is("most of all", Worlds.ALL[3].make().rich(0, 1), 999 + 27 * 99);
        Check.is("what 2", none.rich(0, 2), BAD);
        Check.is("what -1", none.rich(0, -1), BAD);
        FeatherShares x = Check.of("moulter 1 9;share 0 3 8;");
        Check.is("8 feathers", x.rich(0, 0) * 1000 + x.rich(0, 1), 3092);
        Check.is("5, and 2 for the skin", x.rich(1, 0) * 1000 + x.rich(1, 1), 3065);
        Check.is("4, and 2 (1 lost, 1 lost, 1 grows)", x.rich(2, 0) * 1000 + x.rich(2, 1), 3056);
    }

    private static void turnAtItsEdges() {
        Check.sentence("behind how many (1 to 60) first THE EGG of a GOOSE is another one's (or nobody's) than now. BAD; NONE: behind none.");
        Check.is("nobody's stays so", Worlds.ALL[4].make().turn(0), NONE);
        Check.is("all alike: his whose skin it is", Worlds.ALL[3].make().turn(2), NONE);
        Check.is("behind 1", Check.of("moulter 4 1;share 0 1 1;").turn(0), 1);
        FeatherShares x = Check.of("drake 0 1;share 0 1 50;share 0 2 7;");
        FeatherShares step = Check.of("drake 0 1;share 0 1 50;share 0 2 7;");
        int due = NONE;
        for (int n = 1; n <= 60; n++) {
            step.weeks(1);
            due = due == NONE && step.goose(0, 4) != 1 ? n : due;
        }
        Check.is("late", x.turn(0), due);
        Check.is("behind 16", due, 16);
        FeatherShares back = Check.of("plain 0 1;share 0 0 7;share 0 1 8;");
        Check.is("another one's than now, not than at first", back.turn(0), 1);
        back.weeks(1);
        Check.is("from now on", back.turn(0), NONE);
        Check.is("goose 1", back.turn(1), BAD);
        Check.is("goose -1", back.turn(-1), BAD);
    }

    private static void withoutGeese() {
        Check.sentence("there is no such GOOSE, OWNER");
        FeatherShares x = new FeatherShares();
        Check.is("buy", x.buy(0, 1, 0, 1), BAD);
        Check.is("pluck", x.pluck(0, 1, 0, 1), BAD);
        Check.is("later", x.later(0, 0, 0), BAD);
        Check.is("bare", x.bare(0, 0), BAD);
        Check.is("turn", x.turn(0), BAD);
        Check.is("eggs", x.eggs(4, 60), 0);
        Check.is("rich", x.rich(60, 0), 0);
        Check.is("that worth", x.rich(60, 1), 20);
        Check.is("weeks", x.weeks(1), 0);
        Check.is("week", x.rule(1), 1);
    }
}
