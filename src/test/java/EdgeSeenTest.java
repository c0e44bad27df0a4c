/** The edges of what is SEEN, of what to look at next, of trades by a seed (promises 34 to 39). */
public final class EdgeSeenTest {
    private static final int BAD = FeatherShares.BAD, STATE = FeatherShares.STATE;
    private static final int FULL = FeatherShares.FULL, NONE = FeatherShares.NONE;
    private static final int MOST = Integer.MAX_VALUE, LEAST = Integer.MIN_VALUE;
    private static final String THREE =
        "plain 0 1;swan 3 2;moulter 2 3;share 0 0 40;share 1 1 40;share 2 2 40;share 0 3 9;";

    public static void main(String[] args) {
        sixAreSeen();
        seeAtItsBounds();
        seeTakesWhatCanNotBe();
        forgetAtItsBounds();
        kindsOfNothingSeen();
        kindsOfEachWeek();
        seenOfOtherGeese();
        seenFromHowItStands();
        seenOfManyAtOnce();
        skinsOfEach();
        lookWhereNothingIsToldApart();
        lookOfSeveralTheLeast();
        lookUpTo20();
        lookFewerThanNow();
        withoutGeese();
        driftBounds();
        driftLaysAndTrades();
        driftBySeeds();
        driftByEachNumberGot();
        driftWrapsAround();
        driftChangesNothing();
        Check.end("EdgeSeenTest");
    }

    private static void sixAreSeen() {
        Check.sentence("SEEN: behind n WEEKS (0 to 20) an OWNER has v (0 to 99) of a GOOSE: how many are. BAD; FULL.");
        FeatherShares x = Check.of("plain 0 1;plain 0 1;plain 0 1;");
        for (int i = 1; i <= 6; i++) {
            Check.is("see", x.see(i % 3, i % 5, i, i), i);
            Check.is("count", x.count(0), i);
        }
        Check.is("the seventh", x.see(0, 0, 0, 0), FULL);
        Check.is("one alike", x.see(1, 1, 1, 1), FULL);
        Check.is("six", x.count(0), 6);
        Check.is("forget(5)", x.forget(5), 6);
        Check.is("the sixth anew", x.see(0, 0, 0, 0), 6);
        Check.is("full again", x.see(0, 0, 0, 0), FULL);
        x.weeks(1);
        Check.is("weeks leave it", x.count(0), 6);
        x.keep(0);
        x.forget(2);
        x.back(0);
        Check.is("an image has it not", x.count(0), 2);
    }

    private static void seeAtItsBounds() {
        Check.sentence("behind n WEEKS (0 to 20) an OWNER has v (0 to 99) of a GOOSE");
        int[][] as = {{0, 0, 0, 0}, {2, 4, 20, 99}, {2, 0, 20, 0}, {0, 4, 0, 99}};
        int[][] not = {{3, 0, 0, 0}, {-1, 0, 0, 0}, {0, 5, 0, 0}, {0, -1, 0, 0}, {0, 0, 21, 0}, {0, 0, -1, 0},
            {0, 0, 0, 100}, {0, 0, 0, -1}, {0, 0, 60, 0}, {MOST, 0, 0, 0}, {0, LEAST, 0, 0}, {0, 0, MOST, 0}, {0, 0, 0, LEAST}};
        FeatherShares x = Check.of("plain 0 1;plain 0 1;plain 0 1;");
        for (int[] n : not) {
            Check.is("see BAD", x.see(n[0], n[1], n[2], n[3]), BAD);
            Check.is("none", x.count(0), 0);
        }
        for (int i = 0; i < as.length; i++) {
            Check.is("see", x.see(as[i][0], as[i][1], as[i][2], as[i][3]), i + 1);
        }
    }

    private static void seeTakesWhatCanNotBe() {
        Check.sentence("by which, all else as it is, all is as SEEN. BAD.");
        FeatherShares x = Check.of("plain 0 1;share 0 0 9;");
        Check.is("what is not so", x.see(0, 0, 0, 10), 1);
        Check.is("no kind", x.kinds(0), 0);
        Check.is("no skin", x.skins(0), 0);
        Check.is("what is so", x.see(0, 0, 0, 9), 2);
        Check.is("no kind still", x.kinds(0), 0);
        x.grant(0, 0, 10);
        Check.is("now the second is not so", x.skins(0), 0);
        x.forget(1);
        Check.is("the first is so now", x.kinds(0), 15);
        Check.is("all skins", x.skins(0), 31);
    }

    private static void forgetAtItsBounds() {
        Check.sentence("SEEN are the first n alone: how many there were. BAD (n above that, too).");
        for (int had = 0; had <= 6; had++) {
            for (int n = -1; n <= 7; n++) {
                FeatherShares x = Check.of("plain 0 1;");
                for (int i = 0; i < had; i++) {
                    x.see(0, 0, 0, i == 0 ? 0 : 7);
                }
                boolean is = n >= 0 && n <= had;
                Check.is("forget(" + n + ") of " + had, x.forget(n), is ? had : BAD);
                Check.is("seen", x.count(0), is ? n : had);
                Check.is("the first alone is so", x.kinds(0), (is ? n : had) <= 1 ? 15 : 0);
            }
        }
        FeatherShares x = new FeatherShares();
        Check.is("forget(0) of none", x.forget(0), 0);
        Check.is("forget(1) of none", x.forget(1), BAD);
        Check.is("forget(-1) of none", x.forget(-1), BAD);
    }

    private static void kindsOfNothingSeen() {
        Check.sentence("KINDS of a GOOSE (bits) by which, all else as it is, all is as SEEN. BAD.");
        for (Worlds.World world : Worlds.ALL) {
            FeatherShares x = world.make();
            x.forget(0);
            for (int g = 0; g < 3; g++) {
                Check.is("kinds", x.kinds(g), g < world.geese() ? 15 : BAD);
                Check.is("skins", x.skins(g), g < world.geese() ? 31 : BAD);
            }
        }
    }

    /** A sight behind n weeks leaves just the kinds by which later() tells that share. */
    private static void kindsOfEachWeek() {
        Check.sentence("SEEN (6): behind n WEEKS (0 to 20) from how it stands when that is asked of (not from see() on) an OWNER has a SHARE of a GOOSE.");
        for (int n = 0; n <= 20; n++) {
            for (int own = 0; own < 4; own++) {
                FeatherShares x = Check.of("plain 1 1;share 0 0 99;share 0 1 30;share 0 2 17;");
                x.alter(0, 0, own);
                int held = x.later(0, n % 3, n);
                int due = 0;
                for (int kind = 0; kind < 4; kind++) {
                    x.alter(0, 0, kind);
                    due |= x.later(0, n % 3, n) == held ? 1 << kind : 0;
                }
                x.see(0, n % 3, n, held);
                Check.is("kinds by " + held + " behind " + n, x.kinds(0), due);
                Check.is("the kind itself is one", due >> own & 1, 1);
            }
        }
    }

    private static void seenOfOtherGeese() {
        Check.sentence("by which, all else as it is, all is as SEEN");
        FeatherShares x = Check.of("moulter 4 1;plain 4 1;share 0 0 8;share 1 0 8;");
        x.see(1, 0, 1, 7);
        Check.is("goose 0 is any, as goose 1 is as seen", x.kinds(0), 15);
        Check.is("goose 1 is plain or a swan", x.kinds(1), 5);
        x.see(0, 0, 1, 7);
        Check.is("goose 0 would be plain or a swan", x.kinds(0), 5);
        Check.is("goose 1 is none, as goose 0 is not as seen", x.kinds(1), 0);
        Check.is("nor of any skin", x.skins(1), 0);
        x.alter(0, 0, 2);
        Check.is("goose 1 again", x.kinds(1), 5);
    }

    private static void seenFromHowItStands() {
        Check.sentence("from how it stands when that is asked of (not from see() on)");
        FeatherShares x = Check.of("plain 4 1;share 0 0 24;");
        x.see(0, 0, 2, 19);
        Check.is("24, 21, 19", x.kinds(0), 5);
        x.weeks(1);
        Check.is("21, 19, 17: not 19 behind two; a drake 21, 20, 19", x.kinds(0), 8);
        x.weeks(1);
        Check.is("19, 17, 15; a drake 19, 18, 17", x.kinds(0), 0);
        x.grant(0, 0, 24);
        Check.is("24 again", x.kinds(0), 5);
        x.alter(0, 1, 0);
        Check.is("he has the skin: 24, 23, 22; a moulter 24, 21 (7 lost, 4 grown), 19", x.kinds(0), 2);
        Check.is("any other skin", x.skins(0), 30);
        x.buy(1, 0, 0, 1);
        Check.is("a feather less: 23, 21, 19 ", x.skins(0), 28 | 2);
    }

    private static void seenOfManyAtOnce() {
        Check.sentence("all is as SEEN");
        FeatherShares x = Check.of("plain 4 1;share 0 0 8;share 0 1 1;share 0 2 16;");
        x.see(0, 0, 1, 7);
        Check.is("8 is 7: plain, swan", x.kinds(0), 5);
        x.see(0, 1, 1, 1);
        Check.is("1 is 1: no moulter", x.kinds(0), 5);
        x.see(0, 2, 1, 14);
        Check.is("16 is 14", x.kinds(0), 5);
        x.see(0, 2, 2, 13);
        Check.is("then 13", x.kinds(0), 5);
        x.see(0, 4, 1, 2);
        Check.is("half of 3, up", x.kinds(0), 5);
        x.see(0, 4, 1, 3);
        Check.is("not 3 as well", x.kinds(0), 0);
        x.forget(5);
        Check.is("without the last", x.kinds(0), 5);
    }

    private static void skinsOfEach() {
        Check.sentence("SKINS of a GOOSE (OWNERS; bits) by which, all else as it is, all is as SEEN. BAD.");
        for (int skin = 0; skin < 5; skin++) {
            FeatherShares x = Check.of("plain 0 1;share 0 0 16;");
            x.see(0, skin, 1, skin == 0 ? 15 : 1);
            Check.is("skins by what " + skin + " has", x.skins(0), 1 << skin);
            x.forget(0);
            x.see(0, skin, 1, skin == 0 ? 14 : 0);
            Check.is("all but " + skin, x.skins(0), 31 - (1 << skin));
        }
        Check.is("skins(1) of one", Check.of("plain 0 1;").skins(1), BAD);
        Check.is("skins(-1)", Check.of("plain 0 1;").skins(-1), BAD);
    }

    private static void lookWhereNothingIsToldApart() {
        Check.sentence("how many these are (1). BAD; NONE: nowhere.");
        FeatherShares bare = Worlds.ALL[4].make();
        for (int g = 0; g < 3; g++) {
            Check.is("look of no feathers", bare.look(g, 0), NONE);
            Check.is("how many", bare.look(g, 1), NONE);
        }
        Check.is("look(3, 0)", bare.look(3, 0), BAD);
        Check.is("look(0, 2)", bare.look(0, 2), BAD);
        Check.is("look(0, -1)", bare.look(0, -1), BAD);
        FeatherShares x = Check.of("moulter 4 1;share 0 0 8;");
        x.see(0, 0, 1, 5);
        Check.is("a moulter alone", x.kinds(0), 2);
        Check.is("nothing to be told", x.look(0, 0), NONE);
        x.see(0, 0, 0, 9);
        Check.is("none is left", x.kinds(0), 0);
        Check.is("nothing to be told then", x.look(0, 1), NONE);
    }

    private static void lookOfSeveralTheLeast() {
        Check.sentence("10 times the WEEKS and the OWNER, of several the least (what 0)");
        for (int o = 0; o < 5; o++) {
            FeatherShares x = Check.of("plain 0 1;");
            x.alter(0, 1, (o + 1) % 5);
            x.grant(0, o, 8);
            int first = Math.min(o, (o + 1) % 5);
            Check.is("at who loses or who has the skin, the first of them", x.look(0, 0), 10 + first);
            Check.is("plain and swan at the worst", x.look(0, 1), 2);
            x.grant(0, 4, 8);
            Check.is("at the first of three", x.look(0, 0), o == 3 ? 13 : 10 + first);
        }
    }

    private static void lookUpTo20() {
        Check.sentence("Behind how many WEEKS (0 to 20), at which OWNER's SHARE of that GOOSE to look, so that of its KINDS fewest are left at the worst, fewer than now");
        int[][] worlds = {{31, 0, 0, 0, 0, 4}, {0, 0, 0, 31, 0, 3}, {31, 0, 4, 0, 0, 0}, {0, 5, 0, 28, 0, 3}, {0, 0, 18, 0, 0, 1}};
        for (int[] w : worlds) {
            FeatherShares x = Check.of("plain 0 1;");
            x.alter(0, 1, w[5]);
            for (int o = 0; o < 5; o++) {
                x.grant(0, o, w[o]);
            }
            int due = NONE;
            int fewest = 4;
            for (int at = 0; at <= 204; at++) {
                int worst = at % 10 < 5 ? mostAlike(x, at / 10, at % 10) : 4;
                due = worst < fewest ? at : due;
                fewest = Math.min(worst, fewest);
            }
            x.alter(0, 0, 0);
            Check.is("look", x.look(0, 0), due);
            Check.is("how many", x.look(0, 1), due == NONE ? NONE : fewest);
        }
        FeatherShares late = Check.of("plain 4 1;share 0 4 31;");
        Check.is("behind nine weeks, not sooner", late.look(0, 0), 94);
    }

    private static int mostAlike(FeatherShares x, int n, int o) {
        int[] told = new int[100];
        int most = 0;
        for (int kind = 0; kind < 4; kind++) {
            x.alter(0, 0, kind);
            int held = x.later(0, o, n);
            told[held]++;
            most = Math.max(most, told[held]);
        }
        return most;
    }

    private static void lookFewerThanNow() {
        Check.sentence("fewer than now");
        FeatherShares x = Check.of("plain 4 1;share 0 0 8;");
        Check.is("four: two are left", x.look(0, 1), 2);
        x.see(0, 0, 1, 7);
        Check.is("two: they are never told apart", x.look(0, 0), NONE);
        x.forget(0);
        x.see(0, 4, 1, 0);
        Check.is("a drake alone", x.kinds(0), 8);
        Check.is("one: not to be fewer", x.look(0, 1), NONE);
        FeatherShares three = Check.of("plain 4 1;share 0 2 1;share 0 0 8;");
        three.see(0, 2, 1, 1);
        Check.is("plain, swan, drake", three.kinds(0), 13);
        Check.is("at 0, behind one", three.look(0, 0), 10);
        Check.is("two of them at the worst", three.look(0, 1), 2);
    }

    private static void withoutGeese() {
        Check.sentence("BAD; STATE: there are no GEESE.");
        FeatherShares x = new FeatherShares();
        Check.is("see", x.see(0, 0, 0, 0), BAD);
        Check.is("kinds", x.kinds(0), BAD);
        Check.is("skins", x.skins(0), BAD);
        Check.is("look", x.look(0, 0), BAD);
        for (int seed : new int[] {0, 1, -1, MOST, LEAST}) {
            Check.is("drift", x.drift(seed, 1, 0), STATE);
            Check.is("drift 60", x.drift(seed, 60, 1), STATE);
            Check.is("drift 61", x.drift(seed, 61, 1), BAD);
            Check.is("drift 0", x.drift(seed, 0, 0), BAD);
        }
    }

    private static void driftBounds() {
        Check.sentence("n times (1 to 60) by a seed");
        FeatherShares x = Check.of("plain 0 1;share 0 0 9;");
        for (int n = -1; n <= 62; n++) {
            boolean is = n >= 1 && n <= 60;
            Check.is("drift(0, " + n + ", 0) is BAD", x.drift(0, n, 0) == BAD ? 1 : 0, is ? 0 : 1);
            if (is) {
                Check.is("weeks and trades, n in all", x.drift(0, n, 0) + x.drift(0, n, 1), n);
            }
        }
        Check.is("what 2", x.drift(0, 1, 2), BAD);
        Check.is("what -1", x.drift(0, 1, -1), BAD);
        FeatherShares bare = Worlds.ALL[4].make();
        Check.is("bare geese lay none", bare.drift(77, 60, 0), 0);
        Check.is("nor are there trades", bare.drift(77, 60, 1), 0);
    }

    private static void driftLaysAndTrades() {
        Check.sentence("EGGS that are laid (what 0), TRADES that came (1). BAD; STATE: there are no GEESE.");
        FeatherShares one = Check.of("plain 0 9;share 0 0 9;");
        for (int o = 0; o < 5; o++) {
            one.purse(o, 0);
        }
        FeatherShares three = Check.of("plain 0 9;plain 0 9;plain 0 9;share 0 0 9;share 2 0 9;");
        for (int o = 0; o < 5; o++) {
            three.purse(o, 0);
        }
        for (int n = 1; n <= 60; n++) {
            Check.is("an egg a week", one.drift(n, n, 0), n);
            Check.is("nobody has money", one.drift(n, n, 1), 0);
            Check.is("two eggs a week, a goose is bare", three.drift(n, n, 0), 2 * n);
            Check.is("eggs that there are do not count", three.rule(4), n == 1 ? 0 : 2);
            if (n == 1) {
                three.weeks(1);
            }
        }
    }

    /** The answers are of a reckoning apart from this program, by whole numbers that do not wrap. */
    private static void driftBySeeds() {
        Check.sentence("the seed becomes seed times 1103515245 and 12345; bits 16 to 30 of it are got");
        int[] times = {1, 2, 7, 60};
        int[][] due = {
            {0, 3, 0, 3, 1, 12, 3, 126, 18}, {1, 3, 0, 6, 0, 21, 0, 144, 12}, {-1, 3, 0, 6, 0, 15, 2, 129, 17},
            {MOST, 3, 0, 6, 0, 15, 2, 129, 17}, {LEAST, 3, 0, 3, 1, 12, 3, 126, 18}, {12345, 0, 1, 3, 1, 9, 4, 123, 19},
            {-12345, 3, 0, 6, 0, 18, 1, 129, 17}, {65535, 0, 1, 3, 1, 18, 1, 138, 14}, {65536, 3, 0, 6, 0, 21, 0, 138, 14},
            {-65536, 0, 1, 3, 1, 15, 2, 138, 14}, {1103515245, 0, 1, 3, 1, 9, 4, 141, 13},
            {1000000000, 0, 1, 3, 1, 18, 1, 141, 13}, {-1000000000, 3, 0, 6, 0, 15, 2, 141, 13}};
        for (int[] d : due) {
            FeatherShares x = Check.of(THREE);
            for (int i = 0; i < 4; i++) {
                Check.is("drift(" + d[0] + ", " + times[i] + ", 0)", x.drift(d[0], times[i], 0), d[1 + 2 * i]);
                Check.is("drift(" + d[0] + ", " + times[i] + ", 1)", x.drift(d[0], times[i], 1), d[2 + 2 * i]);
            }
        }
    }

    /** Turned about: the seed by which just this is got, whatever stands in the bits beside. */
    private static int seedFor(int got, int beside) {
        int becomes = got << 16 | beside & 0x8000ffff;
        return (becomes - 12345) * (int) 4005161829L;
    }

    private static FeatherShares market() {
        FeatherShares x = Check.of("plain 0 1;swan 1 4;drake 2 9;");
        for (int g = 0; g < 3; g++) {
            for (int o = 0; o < 5; o++) {
                x.grant(g, o, o == g ? 94 : (3 * g + 4 * o) % 11);
            }
        }
        for (int o = 0; o < 5; o++) {
            x.purse(o, o == 3 ? 990 : 7 * o + 6);
        }
        return x;
    }

    private static void driftByEachNumberGot() {
        Check.sentence("of GOOSE got modulo GEESE OWNER got by 4 (down) modulo 5 buys of OWNER got by 32 (down) modulo 5 as many as 1 more than (got by 256 (down) modulo 9), if that TRADE can be (of another one), else a WEEK goes");
        FeatherShares x = market();
        int[] cameOf = new int[9];
        for (int got = 0; got < 32768; got++) {
            if (got % 100 == 0) {
                x = market();
            }
            int g = got % 3;
            int b = got / 4 % 5;
            int s = got / 32 % 5;
            int n = 1 + got / 256 % 9;
            int cost = n * x.goose(g, 2);
            boolean can = b != s && x.share(g, s) >= n && x.share(g, b) + n <= 99 && x.owner(b, 0) >= cost
                && x.owner(s, 0) + cost <= 999;
            int seed = seedFor(got, got * 40503);
            Check.is("trades by " + got, x.drift(seed, 1, 1), can ? 1 : 0);
            Check.is("eggs by " + got, x.drift(seed, 1, 0), can ? 0 : 3);
            cameOf[n - 1] += can ? 1 : 0;
        }
        for (int n = 1; n <= 9; n++) {
            Check.is("some of " + n + " came", Math.min(1, cameOf[n - 1]), 1);
        }
    }

    private static void driftWrapsAround() {
        Check.sentence("bits 16 to 30 of it are got");
        FeatherShares x = Check.of("plain 0 1;share 0 0 9;share 0 1 9;share 0 2 9;share 0 3 9;share 0 4 9;");
        int buyOneOfNull = 4;
        for (int beside : new int[] {0, 0xffff, 0x80000000, 0x8000ffff, 0x7fff, 0x8000}) {
            Check.is("1 buys one of 0, beside " + beside, x.drift(seedFor(buyOneOfNull, beside), 1, 1), 1);
            Check.is("0 of 0: a week, beside " + beside, x.drift(seedFor(0, beside), 1, 0), 1);
            Check.is("all bits: 1 (8191 modulo 5) buys of 3 (1023 modulo 5) two (127 modulo 9, and 1)",
                x.drift(seedFor(32767, beside), 1, 1), 1);
        }
        Check.is("the seed becomes 12345 by 0: got is 0", x.drift(0, 1, 0), 1);
    }

    private static void driftChangesNothing() {
        Check.sentence("By itself (as it would be; nothing is changed)");
        for (Worlds.World world : Worlds.ALL) {
            FeatherShares x = world.make();
            x.drift(1, 60, 0);
            x.drift(-5, 60, 1);
            x.kinds(0);
            x.skins(0);
            x.look(0, 0);
            Check.same(world.name(), Worlds.all(x), Worlds.all(world.make()));
        }
        FeatherShares late = Check.of("plain 0 1;share 0 0 9;");
        int early = late.drift(3, 60, 0);
        for (int i = 0; i < 33; i++) {
            late.weeks(30);
        }
        late.weeks(9);
        Check.is("at week 999 weeks go all the same", late.drift(3, 60, 0), early);
    }
}
