/** Promises 16 to 25: trades, weeks, what comes by the plan and by weeks. */
public final class TradeTest {
    private static final int BAD = FeatherShares.BAD, STATE = FeatherShares.STATE;
    private static final int FULL = FeatherShares.FULL, NONE = FeatherShares.NONE;
    private static final int MOST = Integer.MAX_VALUE, LEAST = Integer.MIN_VALUE;
    private static final int PLAIN = 0, MOULTER = 1, SWAN = 2, DRAKE = 3;

    public static void main(String[] args) {
        buy();
        pluck();
        wrongTrades();
        lossesByKind();
        growth();
        weeks();
        runs();
        ahead();
        later();
        eggs();
        bare();
        rich();
        turn();
        Check.end("TradeTest");
    }

    private static void buy() {
        FeatherShares x = Check.of("plain 0 3;plain 0 2;share 0 1 30;share 1 1 9;");
        Check.is("buy", x.buy(0, 1, 0, 6), 2);
        Check.is("feathers of who buys", x.share(0, 0), 6);
        Check.is("feathers of who sells", x.share(0, 1), 24);
        Check.is("money of who sells", x.owner(1, 0), 38);
        Check.is("no money", x.buy(0, 1, 0, 1), STATE);
        Check.is("just the money", x.buy(0, 1, 1, 1), 0);
        Check.is("no feathers", x.buy(2, 1, 1, 9), STATE);
        Check.is("just the feathers", x.buy(2, 1, 1, 8), 4);
        x.purse(3, 999);
        x.grant(0, 3, 93);
        Check.is("100 feathers", x.buy(3, 1, 0, 7), STATE);
        Check.is("99 feathers", x.buy(3, 1, 0, 6), 981);
        x.purse(1, 998 - 12);
        x.grant(0, 3, 0);
        x.grant(0, 1, 20);
        Check.is("1001 of money", x.buy(3, 1, 0, 5), STATE);
        Check.is("998 of money", x.buy(3, 1, 0, 4), 969);
        x.purse(1, 999 - 3);
        Check.is("999 of money", x.buy(3, 1, 0, 1), 966);
        Check.is("what is refused changes nothing", x.share(0, 1), 15);
    }

    private static void pluck() {
        FeatherShares x = Check.of("plain 0 9;share 0 1 10;share 0 2 91;money 0 0;");
        Check.is("pluck", x.pluck(0, 1, 0, 9), 9);
        Check.is("who is plucked", x.share(0, 1), 1);
        Check.is("no money moves", x.owner(1, 0), 20);
        Check.is("no feathers", x.pluck(0, 1, 0, 2), STATE);
        Check.is("100 feathers", x.pluck(2, 0, 0, 9), STATE);
        Check.is("99 feathers", x.pluck(2, 0, 0, 8), 99);
        x.purse(1, 999);
        Check.is("money is no matter", x.pluck(0, 1, 0, 1), 2);
    }

    private static void wrongTrades() {
        FeatherShares x = Check.of("plain 0 1;share 0 0 50;share 0 1 50;");
        int[][] wrong = {{0, 0, 0, 1}, {5, 0, 0, 1}, {0, 5, 0, 1}, {-1, 0, 0, 1}, {0, -1, 0, 1}, {0, 1, 1, 1},
            {0, 1, -1, 1}, {0, 1, 0, 0}, {0, 1, 0, 10}, {0, 1, 0, -1}, {MOST, LEAST, MOST, LEAST}};
        for (int[] w : wrong) {
            Check.is("buy BAD", x.buy(w[0], w[1], w[2], w[3]), BAD);
            Check.is("pluck BAD", x.pluck(w[0], w[1], w[2], w[3]), BAD);
        }
        Check.is("stays", x.share(0, 0), 50);
    }

    /** A week in which another one has the skin, so that his loss is seen as it is. */
    private static int behindAWeek(int kind, int held) {
        FeatherShares x = Check.of("plain 4 1;");
        x.alter(0, 0, kind);
        x.grant(0, 0, held);
        Check.is("weeks(1)", x.weeks(1), held > 0 ? 1 : 0);
        return x.share(0, 0);
    }

    private static void lossesByKind() {
        int[] held = {0, 1, 7, 8, 9, 15, 16, 17, 24, 98, 99};
        int[] plain = {0, 0, 0, 1, 1, 1, 2, 2, 3, 12, 12};
        int[] moulter = {0, 1, 1, 3, 3, 3, 5, 5, 7, 25, 25};
        int[] swan = {0, 0, 0, 1, 1, 1, 2, 2, 3, 12, 12};
        int[] drake = {0, 0, 0, 0, 0, 0, 1, 1, 2, 11, 11};
        for (int i = 0; i < held.length; i++) {
            Check.is("plain of " + held[i], behindAWeek(PLAIN, held[i]), held[i] - plain[i]);
            Check.is("moulter of " + held[i], behindAWeek(MOULTER, held[i]), held[i] - moulter[i]);
            Check.is("swan of " + held[i], behindAWeek(SWAN, held[i]), held[i] - swan[i]);
            Check.is("drake of " + held[i], behindAWeek(DRAKE, held[i]), held[i] - drake[i]);
        }
    }

    private static void growth() {
        FeatherShares x = Check.of("plain 4 1;share 0 0 24;share 0 1 99;share 0 2 8;share 0 4 8;");
        x.weeks(1);
        Check.is("0 loses 3", x.share(0, 0), 21);
        Check.is("1 loses 12", x.share(0, 1), 87);
        Check.is("2 loses 1", x.share(0, 2), 7);
        Check.is("4 loses 1, grows by half of 17, up", x.share(0, 4), 7 + 9);
        FeatherShares y = Check.of("plain 4 1;share 0 0 99;share 0 1 99;share 0 2 99;share 0 3 99;share 0 4 99;");
        y.weeks(1);
        Check.is("99 at most", y.share(0, 4), 99);
        FeatherShares z = Check.of("moulter 4 1;share 0 0 1;");
        z.weeks(1);
        Check.is("half of 1, up", z.share(0, 4), 1);
        Check.is("he loses all", z.share(0, 0), 0);
    }

    private static void weeks() {
        FeatherShares x = Check.of("plain 0 1;swan 2 1;share 0 0 8;share 0 1 9;");
        Check.is("weeks(0)", x.weeks(0), 0);
        Check.is("weeks(31)", x.weeks(31), BAD);
        Check.is("weeks(-1)", x.weeks(-1), BAD);
        Check.is("weeks(1)", x.weeks(1), 1);
        Check.is("the egg is laid ahead of the moult", x.owner(1, 1), 1);
        Check.is("0 grows", x.share(0, 0), 8);
        Check.is("1 moults", x.share(0, 1), 8);
        Check.is("weeks(2)", x.weeks(2), 2);
        Check.is("skin's owner has the later eggs", x.owner(0, 1), 2);
        Check.is("week", x.rule(1), 3);
        Check.is("all eggs", x.rule(4), 3);
        for (int i = 0; i < 33; i++) {
            x.weeks(30);
        }
        Check.is("week 993", x.rule(1), 993);
        Check.is("1000", x.weeks(7), FULL);
        Check.is("BAD ahead of FULL", x.weeks(31), BAD);
        Check.is("stays", x.rule(1), 993);
        Check.is("999", x.weeks(6), 6);
        Check.is("week 999", x.rule(1), 999);
        Check.is("weeks(0) at 999", x.weeks(0), 0);
        Check.is("weeks(1) at 999", x.weeks(1), FULL);
        Check.is("later() goes on all the same", x.later(0, 0, 60), x.share(0, 0));
    }

    private static FeatherShares withPlan() {
        return Check.of("plain 0 3;share 0 1 10;trade 0 1 0 6;trade 0 1 0 1;trade 1 0 0 2;trade 0 1 0 2;trade 2 3 0 1;");
    }

    private static void runs() {
        FeatherShares x = withPlan();
        Check.is("came", x.runs(0), 3);
        Check.is("first passed over", x.runs(1), 1);
        Check.is("money", x.runs(2), 18 + 6 + 6);
        Check.is("what 3", x.runs(3), BAD);
        Check.is("what -1", x.runs(-1), BAD);
        Check.is("as it would be", x.share(0, 0), 0);
        x.cut(1);
        Check.is("none is passed over", x.runs(1), NONE);
        x.cut(0);
        Check.is("no plan came", x.runs(0), 0);
        Check.is("no plan passed over", x.runs(1), NONE);
        Check.is("no plan's money", x.runs(2), 0);
    }

    private static void ahead() {
        FeatherShares x = withPlan();
        Check.is("money of 0", x.ahead(0, 0), 20 - 18 + 6 - 6);
        Check.is("eggs of 1", x.ahead(1, 1), 0);
        Check.is("worth of 1", x.ahead(1, 2), 50);
        Check.is("geese of 0", x.ahead(0, 3), 1);
        Check.is("geese of 1", x.ahead(1, 3), 0);
        Check.is("geese of 1 now", x.owner(1, 3), 1);
        Check.is("what 4", x.ahead(0, 4), BAD);
        Check.is("what -1", x.ahead(0, -1), BAD);
        Check.is("owner 5", x.ahead(5, 0), BAD);
        Check.is("owner -1", x.ahead(-1, 0), BAD);
        x.weeks(2);
        Check.is("eggs it has", x.ahead(1, 1), 2);
        Check.is("a new object", new FeatherShares().ahead(4, 2), 20);
    }

    private static void later() {
        FeatherShares x = Check.of("plain 0 3;share 0 1 24;");
        int[][] due = {{0, 24}, {2, 21}, {3, 19}, {4, 17}, {5, 15}};
        for (int n = 0; n < due.length; n++) {
            Check.is("of 0 behind " + n, x.later(0, 0, n), due[n][0]);
            Check.is("of 1 behind " + n, x.later(0, 1, n), due[n][1]);
        }
        Check.is("behind 60", x.later(0, 1, 60), 7);
        Check.is("as it would be", x.rule(1), 0);
        Check.is("n 61", x.later(0, 1, 61), BAD);
        Check.is("n -1", x.later(0, 1, -1), BAD);
        Check.is("owner 5", x.later(0, 5, 1), BAD);
        Check.is("owner -1", x.later(0, -1, 1), BAD);
        Check.is("goose 1", x.later(1, 0, 1), BAD);
        Check.is("goose -1", x.later(-1, 0, 1), BAD);
    }

    private static void eggs() {
        FeatherShares x = Check.of("plain 0 3;swan 1 1;share 0 1 24;share 1 1 1;");
        Check.is("behind 0", x.eggs(1, 0), 0);
        Check.is("behind 3", x.eggs(1, 3), 6);
        Check.is("behind 60", x.eggs(1, 60) + x.eggs(0, 60), 120);
        x.weeks(2);
        Check.is("with those it has", x.eggs(1, 1), 6);
        Check.is("nothing is laid", x.owner(1, 1), 4);
        Check.is("n 61", x.eggs(1, 61), BAD);
        Check.is("n -1", x.eggs(1, -1), BAD);
        Check.is("owner 5", x.eggs(5, 1), BAD);
        Check.is("owner -1", x.eggs(-1, 1), BAD);
        Check.is("a new object", new FeatherShares().eggs(0, 60), 0);
    }

    private static void bare() {
        FeatherShares x = Check.of("plain 0 3;plain 0 1;share 0 1 24;");
        Check.is("v 24", x.bare(0, 24), 0);
        Check.is("v 23", x.bare(0, 23), 1);
        Check.is("v 22", x.bare(0, 22), 2);
        Check.is("v 21", x.bare(0, 21), 3);
        Check.is("v 0", x.bare(0, 0), NONE);
        Check.is("v 495", x.bare(0, 495), 0);
        Check.is("none at all", x.bare(1, 0), 0);
        Check.is("v 496", x.bare(0, 496), BAD);
        Check.is("v -1", x.bare(0, -1), BAD);
        Check.is("goose 2", x.bare(2, 1), BAD);
        Check.is("goose -1", x.bare(-1, 1), BAD);
        FeatherShares y = Check.of("moulter 4 1;share 0 4 1;");
        Check.is("what is lost grows again", y.bare(0, 0), NONE);
    }

    private static void rich() {
        FeatherShares x = Check.of("plain 0 9;share 0 1 24;money 3 90;");
        Check.is("now", x.rich(0, 0), 1);
        Check.is("now's worth", x.rich(0, 1), 20 + 216);
        Check.is("behind 4", x.rich(4, 0), 1);
        Check.is("behind 4, worth", x.rich(4, 1), 20 + 9 * 15);
        Check.is("behind 60: 8 to 7", x.rich(60, 0), 0);
        Check.is("behind 60, worth", x.rich(60, 1), 20 + 9 * 8);
        Check.is("of several the first", new FeatherShares().rich(60, 0), 0);
        FeatherShares y = new FeatherShares();
        y.purse(2, 30);
        y.purse(3, 30);
        Check.is("of several the first of them", y.rich(0, 0), 2);
        Check.is("n 61", x.rich(61, 0), BAD);
        Check.is("n -1", x.rich(-1, 0), BAD);
        Check.is("what 2", x.rich(0, 2), BAD);
        Check.is("what -1", x.rich(0, -1), BAD);
    }

    private static void turn() {
        FeatherShares x = Check.of("plain 0 3;plain 3 1;plain 2 1;share 0 1 12;share 0 0 10;share 2 2 50;");
        Check.is("12 to 10, 11 to 10, 10 to 10 is his whose skin it is", x.turn(0), 2);
        Check.is("nobody's stays nobody's", x.turn(1), NONE);
        Check.is("his it stays", x.turn(2), NONE);
        Check.is("goose 3", x.turn(3), BAD);
        Check.is("goose -1", x.turn(-1), BAD);
        FeatherShares y = Check.of("moulter 0 3;share 0 1 1;");
        Check.is("another one's", y.turn(0), 1);
        FeatherShares z = Check.of("plain 0 3;share 0 1 24;");
        Check.is("15 to 5 behind 4, 9 to 8 behind 10, 8 to 8", z.turn(0), 11);
    }
}
