/** The edges of what is best, of votes, of weeks that moult by odds (promises 26 to 33). */
public final class EdgeBestTest {
    private static final int BAD = FeatherShares.BAD, STATE = FeatherShares.STATE, NONE = FeatherShares.NONE;

    public static void main(String[] args) {
        needOfOneToNine();
        needOfSeveral();
        needOnlyOfTradesThatCanBe();
        needOfNobodys();
        bestOfNoTrades();
        bestOfSeveral();
        bestOfTwo();
        bestWithinTheBounds();
        leaveOfNone();
        swingsOfAllAndNone();
        halfIsNotMore();
        powerInLowestTerms();
        powerOfNobody();
        reignAtItsEdges();
        luckByNoneAndAll();
        luckInLowestTerms();
        meanByNoneAndAll();
        meanIsLarge();
        withoutGeese();
        nothingIsChanged();
        Check.end("EdgeBestTest");
    }

    private static FeatherShares rivals(int his, int first, int second) {
        FeatherShares x = Check.of("plain 4 1;money 0 99;");
        x.grant(0, 0, his);
        x.grant(0, 1, first);
        x.grant(0, 2, second);
        return x;
    }

    private static void needOfOneToNine() {
        Check.sentence("The fewest feathers (1 to 9) by one TRADE, that can be, by which THE EGG of a GOOSE is an OWNER's");
        for (int gap = 0; gap <= 30; gap++) {
            FeatherShares x = rivals(40 - gap, 40, 0);
            int fewest = gap / 2 + (gap % 2 == 0 ? 0 : 1);
            int due = gap == 0 ? STATE : fewest > 9 ? NONE : 10 + fewest;
            Check.is("need, " + gap + " fewer: a tie is the first's, 0's", x.need(0, 0, 0), due);
            Check.is("its money", x.need(0, 0, 1), gap == 0 || due == NONE ? due : fewest);
            x.alter(0, 1, 1);
            int more = gap / 2 + 1;
            Check.is("need, " + gap + " fewer: a tie is the skin's", x.need(0, 0, 0), more > 9 ? NONE : 10 + more);
        }
    }

    private static void needOfSeveral() {
        Check.sentence("of several the first by of whom: 10 times of whom and how many (what 0), MONEY for it (1).");
        FeatherShares x = rivals(10, 12, 3);
        x.grant(0, 3, 12);
        x.grant(0, 4, 2);
        Check.is("2 of 1, 2, 3 or 4", x.need(0, 0, 0), 12);
        x.grant(0, 1, 2);
        Check.is("1 of 3: 11 to 11", x.need(0, 0, 0), 31);
        x.alter(0, 1, 3);
        Check.is("2 of 1: 12 to 12 is the skin's; 2 of 3", x.need(0, 0, 0), 32);
        x.alter(0, 1, 0);
        Check.is("1 of 3 again", x.need(0, 0, 0), 31);
        x.grant(0, 3, 11);
        Check.is("1 of 1, of 2, of 3 or of 4", x.need(0, 0, 0), 11);
        x.grant(0, 1, 0);
        Check.is("1 of 2, of 3 or of 4", x.need(0, 0, 0), 21);
        x.grant(0, 2, 0);
        Check.is("1 of 3 or of 4", x.need(0, 0, 0), 31);
        x.alter(0, 2, 9);
        Check.is("at 9", x.need(0, 0, 1), 9);
        FeatherShares last = Check.of("plain 0 1;share 0 0 5;share 0 3 7;money 4 99;");
        last.grant(0, 4, 5);
        Check.is("4 of 1 more: the first of them is of 3", last.need(4, 0, 0), 32);
        Check.is("of whom 0, alone with 1 figure", Check.of("plain 3 1;share 0 0 1;").need(3, 0, 0), 1);
    }

    private static void needOnlyOfTradesThatCanBe() {
        Check.sentence("by one TRADE, that can be");
        FeatherShares x = rivals(10, 14, 9);
        Check.is("2 of 1", x.need(0, 0, 0), 12);
        x.purse(1, 999);
        Check.is("1 can not take the money: 4 of 2", x.need(0, 0, 0), 24);
        x.purse(1, 998);
        Check.is("only of 1 feather: 4 of 2", x.need(0, 0, 0), 24);
        x.purse(1, 997);
        Check.is("2 of 1 again", x.need(0, 0, 0), 12);
        x.purse(0, 1);
        Check.is("no money for 2", x.need(0, 0, 0), NONE);
        x.purse(0, 2);
        Check.is("just the money", x.need(0, 0, 0), 12);
        Check.is("it costs all", x.need(0, 0, 1), 2);
        FeatherShares full = Check.of("plain 1 1;share 0 0 99;share 0 1 99;money 0 99;");
        Check.is("0 can have no more", full.need(0, 0, 0), NONE);
        full.grant(0, 0, 98);
        Check.is("99 to 98", full.need(0, 0, 0), 11);
        full.grant(0, 1, 98);
        full.grant(0, 2, 99);
        Check.is("99 to 99 of 2 is the first's", full.need(0, 0, 0), 11);
    }

    private static void needOfNobodys() {
        Check.sentence("BAD; STATE: it is his already; NONE: by none.");
        FeatherShares bare = Worlds.ALL[4].make();
        for (int o = 0; o < 5; o++) {
            Check.is("need of nobody's", bare.need(o, 0, 0), NONE);
            Check.is("its money", bare.need(o, 0, 1), NONE);
        }
        FeatherShares x = Check.of("plain 0 1;share 0 3 1;");
        Check.is("his already", x.need(3, 0, 0), STATE);
        Check.is("his already, money", x.need(3, 0, 1), STATE);
        Check.is("all of it", x.need(4, 0, 0), 31);
        Check.is("what 2", x.need(4, 0, 2), BAD);
        Check.is("what -1", x.need(4, 0, -1), BAD);
        Check.is("owner 5", x.need(5, 0, 0), BAD);
        Check.is("goose 1", x.need(4, 1, 0), BAD);
    }

    private static void bestIs(String what, FeatherShares x, int o, int n, int... due) {
        int[] whats = {0, 1, 2, 10, 11};
        for (int i = 0; i < 5; i++) {
            Check.is(what + ": best(" + o + ", " + n + ", " + whats[i] + ")", x.best(o, n, whats[i]), due[i]);
        }
    }

    private static void bestOfNoTrades() {
        Check.sentence("The row of up to n TRADES (0 to 2)");
        bestIs("no geese", new FeatherShares(), 4, 2, 0, 0, 0, NONE, NONE);
        bestIs("bare geese", Worlds.ALL[4].make(), 4, 2, 0, 0, 0, NONE, NONE);
        bestIs("all have all", Worlds.ALL[3].make(), 0, 2, 1, 0, 0, NONE, NONE);
        FeatherShares x = rivals(0, 2, 0);
        bestIs("none of one that could be", x, 0, 0, 0, 0, 0, NONE, NONE);
        bestIs("one", x, 0, 1, 1, 1, 1, 101, NONE);
        bestIs("one is enough", x, 0, 2, 1, 1, 1, 101, NONE);
        Check.is("n 3", x.best(0, 3, 0), BAD);
        Check.is("n -1", x.best(0, -1, 0), BAD);
    }

    private static void bestOfSeveral() {
        Check.sentence("of several of least MONEY, of these of fewest, of these the first");
        FeatherShares x = Check.of("plain 4 3;plain 4 2;money 0 9;share 0 1 1;share 1 2 1;");
        bestIs("one goose of two: the cheaper one", x, 0, 1, 1, 2, 1, 211, NONE);
        x.alter(1, 2, 3);
        bestIs("alike: of whom first", x, 0, 1, 1, 3, 1, 101, NONE);
        FeatherShares both = Check.of("plain 4 3;plain 4 3;money 0 9;share 0 1 1;share 1 1 1;");
        bestIs("alike: then the goose", both, 0, 1, 1, 3, 1, 101, NONE);
        FeatherShares fewer = rivals(10, 12, 0);
        fewer.grant(0, 3, 12);
        bestIs("2 of 1 at once ahead of 1 of 1 and 1 of 3", fewer, 0, 2, 1, 2, 1, 102, NONE);
        FeatherShares one = rivals(10, 12, 4);
        bestIs("1 of 1 ahead of any row of two", one, 0, 2, 1, 1, 1, 101, NONE);
        FeatherShares few = rivals(8, 12, 0);
        bestIs("2 of 1 ahead of 1 and 1, which cost alike", few, 0, 2, 1, 2, 1, 102, NONE);
    }

    private static void bestOfTwo() {
        Check.sentence("how many GEESE (what 0), MONEY for them (1), how many TRADES (2); 10 and i (0, 1): its i-th TRADE (100 times of whom, 10 times the GOOSE and how many; NONE: not so many).");
        FeatherShares x = rivals(0, 30, 0);
        bestIs("15 are needed: 6 and 9 are the first", x, 0, 2, 1, 15, 2, 106, 109);
        bestIs("9 do not do", x, 0, 1, 0, 0, 0, NONE, NONE);
        x.grant(0, 1, 36);
        bestIs("18: 9 and 9", x, 0, 2, 1, 18, 2, 109, 109);
        x.grant(0, 1, 37);
        bestIs("19 are too many", x, 0, 2, 0, 0, 0, NONE, NONE);
        FeatherShares two = Check.of("plain 4 1;plain 4 1;plain 4 1;money 0 99;share 0 3 1;share 1 1 1;share 2 2 1;");
        bestIs("two geese: of whom first, then of whom", two, 0, 2, 2, 2, 2, 111, 221);
        FeatherShares one = Check.of("plain 4 1;plain 4 1;plain 4 1;money 0 99;share 0 1 1;share 1 1 1;share 2 1 1;");
        bestIs("two geese of one: the first two", one, 0, 2, 2, 2, 2, 101, 111);
        bestIs("three by none", one, 0, 1, 1, 1, 1, 101, NONE);
        FeatherShares has = Check.of("plain 4 1;plain 4 1;plain 4 1;money 0 99;share 0 0 1;share 1 1 1;share 2 1 3;");
        bestIs("one is his already", has, 0, 2, 3, 3, 2, 111, 122);
    }

    private static void bestWithinTheBounds() {
        Check.sentence("each of which can be, by which an OWNER, who buys in all of them, has THE EGG of most GEESE then");
        FeatherShares money = rivals(0, 4, 0);
        money.purse(0, 2);
        bestIs("just the money", money, 0, 2, 1, 2, 1, 102, NONE);
        money.purse(0, 1);
        bestIs("one short", money, 0, 2, 0, 0, 0, NONE, NONE);
        FeatherShares seller = rivals(0, 4, 0);
        seller.purse(1, 997);
        bestIs("the seller has 999 then", seller, 0, 2, 1, 2, 1, 102, NONE);
        seller.purse(1, 998);
        bestIs("he would have 1000, by two trades, too", seller, 0, 2, 0, 0, 0, NONE, NONE);
        FeatherShares full = Check.of("plain 4 1;plain 4 1;share 0 0 98;share 0 1 99;share 0 2 99;share 1 3 1;money 0 99;");
        bestIs("99 are the most: 1 of 1, 2 stays with 99, which is the first's", full, 0, 1, 1, 1, 1, 101, NONE);
        bestIs("and the other goose", full, 0, 2, 2, 2, 2, 101, 311);
        full.grant(0, 0, 99);
        full.alter(0, 1, 1);
        full.grant(0, 2, 0);
        bestIs("he can have no more of it", full, 0, 2, 1, 1, 1, 311, NONE);
        FeatherShares second = Check.of("plain 4 9;plain 4 9;share 0 1 1;share 1 1 1;money 0 99;");
        second.purse(1, 985);
        bestIs("the seller can take the money of one alone", second, 0, 2, 1, 9, 1, 101, NONE);
        second.purse(1, 981);
        bestIs("of both", second, 0, 2, 2, 18, 2, 101, 111);
    }

    private static void leaveOfNone() {
        Check.sentence("The TRADE of THE PLAN that is to be left out so that WORTH of an OWNER is most by it, more than as it is, of several the first (what 0), that WORTH (1). BAD; NONE: none.");
        for (Worlds.World world : Worlds.ALL) {
            FeatherShares x = world.make();
            for (int o = 0; o < 5; o++) {
                Check.is(world.name() + ": leave(" + o + ", 0)", x.leave(o, 0), NONE);
                Check.is(world.name() + ": leave(" + o + ", 1)", x.leave(o, 1), NONE);
            }
            Check.is("leave(0, 2)", x.leave(0, 2), BAD);
            Check.is("leave(0, -1)", x.leave(0, -1), BAD);
            Check.is("leave(5, 0)", x.leave(5, 0), BAD);
            Check.is("leave(-1, 0)", x.leave(-1, 0), BAD);
        }
    }

    private static void swingsOfAllAndNone() {
        Check.sentence("An OWNER SWINGS some others, if these are not in power, but with him.");
        FeatherShares bare = Worlds.ALL[4].make();
        FeatherShares full = Worlds.ALL[3].make();
        for (int o = 0; o < 5; o++) {
            Check.is("swings of no feathers", bare.swings(0, o), 0);
            Check.is("swings of five alike: sets of two others", full.swings(0, o), 6);
        }
        FeatherShares x = Check.of("plain 0 1;share 0 4 1;");
        Check.is("one feather is all: all sets", x.swings(0, 4), 16);
        Check.is("of another one", x.swings(0, 0), 0);
        x.grant(0, 0, 1);
        Check.is("of two: sets with the other one", x.swings(0, 0), 8);
        Check.is("so is his", x.swings(0, 4), 8);
        x.grant(0, 1, 1);
        Check.is("of three: with one of two others", x.swings(0, 1), 8);
        x.grant(0, 4, 99);
        Check.is("99 to 2", x.swings(0, 4), 16);
        Check.is("1 of 101", x.swings(0, 0), 0);
    }

    private static void halfIsNotMore() {
        Check.sentence("VOTES of a GOOSE: OWNERS together are in power, if they have more than half of all its feathers.");
        FeatherShares x = Check.of("plain 0 1;share 0 0 50;share 0 1 49;share 0 2 1;");
        Check.is("0: with 1, with 2, with both; 3 and 4 as may be", x.swings(0, 0), 12);
        Check.is("1: with 0 alone", x.swings(0, 1), 4);
        Check.is("2: with 0 alone", x.swings(0, 2), 4);
        x.grant(0, 0, 51);
        Check.is("51 of 101", x.swings(0, 0), 16);
        Check.is("49 of 101", x.swings(0, 1), 0);
        x.grant(0, 1, 51);
        Check.is("51 of 103, with the other or with 2", x.swings(0, 0), 8);
        Check.is("1 of 103, with one of them", x.swings(0, 2), 8);
        x.grant(0, 1, 52);
        Check.is("51 of 104: with 1", x.swings(0, 0), 4);
        Check.is("52 of 104: with 0, with 2, with both", x.swings(0, 1), 12);
        Check.sentence("Sets of other OWNERS that an OWNER SWINGS by VOTES of a GOOSE: how many. BAD.");
        Check.is("swings(1, 0)", x.swings(1, 0), BAD);
        Check.is("swings(0, 5)", x.swings(0, 5), BAD);
    }

    private static void fraction(String what, long over, long under, long dueOver, long dueUnder) {
        Check.is(what, over, dueOver);
        Check.is(what + ", below", under, dueUnder);
    }

    private static void powerIs(FeatherShares x, int g, int o, long over, long under) {
        fraction("power(" + g + ", " + o + ")", x.power(g, o, 0), x.power(g, o, 1), over, under);
    }

    private static void powerInLowestTerms() {
        Check.sentence("Fractions are in lowest terms, told as two numbers, first the numerator, then the denominator, which is above 0 (0 is 0 by 1).");
        FeatherShares full = Worlds.ALL[3].make();
        for (int o = 0; o < 5; o++) {
            powerIs(full, 0, o, 1, 5);
        }
        FeatherShares x = Check.of("plain 0 1;share 0 0 50;share 0 1 49;share 0 2 1;");
        powerIs(x, 0, 0, 3, 5);
        powerIs(x, 0, 1, 1, 5);
        powerIs(x, 0, 2, 1, 5);
        powerIs(x, 0, 3, 0, 1);
        x.grant(0, 0, 99);
        powerIs(x, 0, 0, 1, 1);
        powerIs(x, 0, 1, 0, 1);
        FeatherShares four = Check.of("plain 0 1;share 0 0 2;share 0 1 1;share 0 2 1;share 0 3 1;");
        powerIs(four, 0, 0, 1, 2);
        powerIs(four, 0, 1, 1, 6);
        powerIs(four, 0, 4, 0, 1);
    }

    private static void powerOfNobody() {
        Check.sentence("Which part these are of what all OWNERS SWING of that GOOSE (0, if nobody does): 0, 1. BAD.");
        FeatherShares bare = Worlds.ALL[4].make();
        for (int o = 0; o < 5; o++) {
            powerIs(bare, 0, o, 0, 1);
        }
        Check.is("power(0, 0, 2)", bare.power(0, 0, 2), BAD);
        Check.is("power(0, 0, -1)", bare.power(0, 0, -1), BAD);
        Check.is("power(3, 0, 0)", bare.power(3, 0, 0), BAD);
        Check.is("power(0, 5, 1)", bare.power(0, 5, 1), BAD);
    }

    private static void reignAtItsEdges() {
        Check.sentence("The least SHARE (0 to 99) of an OWNER of a GOOSE, all others as they are, by which he alone is in power. BAD; NONE: by none.");
        for (int others = 0; others <= 99; others++) {
            for (int own : new int[] {0, 50, 99}) {
                FeatherShares x = Check.of("plain 0 1;");
                x.grant(0, 1, others / 2);
                x.grant(0, 4, others - others / 2);
                x.grant(0, 2, own);
                Check.is("against " + others + " with " + own, x.reign(0, 2), others < 99 ? others + 1 : NONE);
                Check.is("nothing is changed", x.share(0, 2), own);
            }
        }
        FeatherShares full = Worlds.ALL[3].make();
        Check.is("against four of 99", full.reign(2, 0), NONE);
        Check.is("against none", Worlds.ALL[4].make().reign(2, 0), 1);
        Check.is("goose 3", full.reign(3, 0), BAD);
        Check.is("owner 5", full.reign(2, 5), BAD);
    }

    private static void luckIs(FeatherShares x, int v, int g, int o, int n, long over, long under) {
        fraction("luck(" + v + ", " + g + ", " + o + ", " + n + ")", x.luck(v, g, o, n, 0), x.luck(v, g, o, n, 1), over, under);
    }

    private static void luckByNoneAndAll() {
        Check.sentence("In each of n WEEKS (0 to 8) GEESE MOULT (all of them) by v out of ten (0 to 10), else nothing is lost, nothing grows in it");
        FeatherShares x = Check.of("moulter 0 1;plain 0 1;share 0 1 1;");
        for (int v = 0; v <= 10; v++) {
            luckIs(x, v, 0, 1, 0, 1, 1);
            luckIs(x, v, 0, 0, 0, 0, 1);
            luckIs(x, v, 1, 0, 8, 0, 1);
        }
        for (int n = 1; n <= 8; n++) {
            luckIs(x, 0, 0, 1, n, 1, 1);
            luckIs(x, 0, 0, 0, n, 0, 1);
            luckIs(x, 10, 0, 0, n, 1, 1);
            luckIs(x, 10, 0, 1, n, 0, 1);
            luckIs(x, 5, 0, 1, n, 1, 1L << n);
            luckIs(x, 5, 0, 0, n, (1L << n) - 1, 1L << n);
        }
        Check.is("n 9", x.luck(5, 0, 0, 9, 0), BAD);
        Check.is("n -1", x.luck(5, 0, 0, -1, 0), BAD);
        Check.is("v 11", x.luck(11, 0, 0, 1, 0), BAD);
        Check.is("v -1", x.luck(-1, 0, 0, 1, 0), BAD);
        Check.is("v 11 of no weeks", x.luck(11, 0, 0, 0, 0), BAD);
        Check.is("what 2", x.luck(5, 0, 0, 1, 2), BAD);
        Check.is("goose 2", x.luck(5, 2, 0, 1, 0), BAD);
        Check.is("owner 5", x.luck(5, 0, 5, 1, 0), BAD);
    }

    private static void luckInLowestTerms() {
        Check.sentence("that THE EGG of a GOOSE is an OWNER's behind them: 0, 1. BAD.");
        FeatherShares x = Check.of("moulter 0 1;share 0 1 1;");
        luckIs(x, 1, 0, 1, 8, 43046721, 100000000);
        luckIs(x, 1, 0, 0, 8, 56953279, 100000000);
        luckIs(x, 9, 0, 1, 8, 1, 100000000);
        luckIs(x, 9, 0, 0, 8, 99999999, 100000000);
        luckIs(x, 4, 0, 1, 1, 3, 5);
        luckIs(x, 4, 0, 1, 2, 9, 25);
        luckIs(x, 8, 0, 1, 2, 1, 25);
        luckIs(x, 2, 0, 0, 3, 61, 125);
        FeatherShares back = Check.of("plain 2 1;share 0 0 8;share 0 1 8;share 0 2 6;");
        luckIs(back, 5, 0, 0, 1, 1, 2);
        luckIs(back, 5, 0, 2, 1, 1, 2);
    }

    private static void meanIs(FeatherShares x, int v, int g, int n, long over, long under) {
        fraction("mean(" + v + ", " + g + ", " + n + ")", x.mean(v, g, n, 0), x.mean(v, g, n, 1), over, under);
    }

    private static void meanByNoneAndAll() {
        Check.sentence("Likewise, the mean of all feathers of a GOOSE behind them: 0, 1. BAD.");
        FeatherShares x = Check.of("plain 1 1;plain 1 1;share 0 0 16;");
        for (int v = 0; v <= 10; v++) {
            meanIs(x, v, 0, 0, 16, 1);
            meanIs(x, v, 1, 8, 0, 1);
            meanIs(x, 0, 0, v % 9, 16, 1);
        }
        meanIs(x, 10, 0, 1, 15, 1);
        meanIs(x, 10, 0, 8, 15, 1);
        meanIs(x, 5, 0, 1, 31, 2);
        meanIs(x, 5, 0, 2, 61, 4);
        meanIs(x, 1, 0, 1, 159, 10);
        meanIs(x, 2, 0, 1, 79, 5);
        meanIs(x, 9, 0, 8, 1500000001L, 100000000);
        Check.is("n 9", x.mean(5, 0, 9, 0), BAD);
        Check.is("n -1", x.mean(5, 0, -1, 0), BAD);
        Check.is("v 11", x.mean(11, 0, 1, 0), BAD);
        Check.is("v -1", x.mean(-1, 0, 1, 0), BAD);
        Check.is("what 2", x.mean(5, 0, 1, 2), BAD);
        Check.is("goose 2", x.mean(5, 2, 1, 0), BAD);
    }

    private static void meanIsLarge() {
        Check.sentence("told as two numbers, first the numerator, then the denominator");
        FeatherShares full = Worlds.ALL[3].make();
        meanIs(full, 0, 0, 8, 495, 1);
        meanIs(Check.of("plain 0 3;share 0 0 12;share 0 1 20;share 0 3 20;"), 3, 0, 8, 4675177381L, 100000000);
        long over = full.mean(1, 1, 8, 0);
        long under = full.mean(1, 1, 8, 1);
        long due = 0;
        int[] chosen = {1, 8, 28, 56, 70, 56, 28, 8, 1};
        FeatherShares step = Check.of("moulter 1 9;share 0 0 99;share 0 1 99;share 0 2 99;share 0 3 99;share 0 4 99;");
        long[] nines = new long[9];
        nines[0] = 1;
        for (int i = 1; i <= 8; i++) {
            nines[i] = 9 * nines[i - 1];
        }
        for (int moults = 0; moults <= 8; moults++) {
            due += chosen[moults] * nines[8 - moults] * step.goose(0, 3);
            step.weeks(1);
        }
        Check.is("all ways to moult", over * (100000000 / under), due);
    }

    private static void withoutGeese() {
        Check.sentence("there is no such GOOSE");
        FeatherShares x = new FeatherShares();
        Check.is("need", x.need(0, 0, 0), BAD);
        Check.is("swings", x.swings(0, 0), BAD);
        Check.is("power", x.power(0, 0, 0), BAD);
        Check.is("reign", x.reign(0, 0), BAD);
        Check.is("luck", x.luck(0, 0, 0, 0, 0), BAD);
        Check.is("mean", x.mean(0, 0, 0, 0), BAD);
        Check.is("best", x.best(0, 0, 0), 0);
        Check.is("leave", x.leave(0, 0), NONE);
    }

    private static void nothingIsChanged() {
        Check.sentence("BY THE PLAN: its TRADES from now on");
        for (Worlds.World world : Worlds.ALL) {
            FeatherShares x = world.make();
            for (int o = 0; o < 5; o++) {
                x.need(o, 0, 0);
                x.best(o, 2, 11);
                x.leave(o, 1);
                x.swings(0, o);
                x.power(0, o, 1);
                x.reign(0, o);
                x.luck(3, 0, o, 8, 0);
                x.mean(3, 0, 8, 1);
            }
            Check.same(world.name(), Worlds.all(x), Worlds.all(world.make()));
        }
    }
}
