/** Promises 26 to 33: what is best, votes, weeks that moult by odds. */
public final class BestTest {
    private static final int BAD = FeatherShares.BAD, STATE = FeatherShares.STATE, NONE = FeatherShares.NONE;
    private static final int MOST = Integer.MAX_VALUE, LEAST = Integer.MIN_VALUE;

    public static void main(String[] args) {
        need();
        best();
        bestRows();
        leave();
        swings();
        power();
        reign();
        luck();
        mean();
        Check.end("BestTest");
    }

    private static void need() {
        FeatherShares x = Check.of("plain 4 2;share 0 0 5;share 0 1 8;share 0 2 9;");
        Check.is("3 of 2: 8, 8, 6 is the first's", x.need(0, 0, 0), 10 * 2 + 3);
        Check.is("money of it", x.need(0, 0, 1), 6);
        Check.is("his already", x.need(2, 0, 0), STATE);
        Check.is("his already, money", x.need(2, 0, 1), STATE);
        x.purse(3, 17);
        Check.is("no money for it", x.need(3, 0, 0), NONE);
        x.purse(3, 18);
        Check.is("9 of 2", x.need(3, 0, 0), 10 * 2 + 9);
        Check.is("9 of 2, money", x.need(3, 0, 1), 18);
        x.alter(0, 1, 1);
        Check.is("1 of 0: at a tie it is his whose skin it is", x.need(1, 0, 0), 1);
        x.purse(0, 5);
        Check.is("money short", x.need(0, 0, 0), NONE);
        FeatherShares y = Check.of("plain 0 1;share 0 1 9;share 0 2 9;");
        y.purse(0, 99);
        Check.is("skin of 0: 9 of 1 tie with 2", y.need(0, 0, 0), 19);
        y.grant(0, 3, 5);
        Check.is("first by how many, then by of whom", y.need(3, 0, 0), 10 * 1 + 5);
        Check.is("nobody's goose, none to buy", Check.of("plain 0 1;").need(0, 0, 0), NONE);
        Check.is("owner 5", x.need(5, 0, 0), BAD);
        Check.is("owner -1", x.need(-1, 0, 0), BAD);
        Check.is("goose 1", x.need(0, 1, 0), BAD);
        Check.is("goose -1", x.need(0, -1, 0), BAD);
        Check.is("what 2", x.need(2, 0, 2), BAD);
        Check.is("what -1", x.need(2, 0, -1), BAD);
    }

    private static void bestIs(FeatherShares x, int o, int n, int[] due) {
        int[] whats = {0, 1, 2, 10, 11};
        for (int i = 0; i < whats.length; i++) {
            Check.is("best(" + o + ", " + n + ", " + whats[i] + ")", x.best(o, n, whats[i]), due[i]);
        }
    }

    private static void best() {
        FeatherShares x = Check.of("plain 4 2;swan 3 3;share 0 1 4;share 1 2 2;");
        bestIs(x, 0, 0, new int[] {0, 0, 0, NONE, NONE});
        bestIs(x, 0, 1, new int[] {1, 3, 1, 211, NONE});
        bestIs(x, 0, 2, new int[] {2, 7, 2, 102, 211});
        bestIs(x, 1, 2, new int[] {2, 3, 1, 211, NONE});
        bestIs(x, 1, 0, new int[] {1, 0, 0, NONE, NONE});
        x.purse(0, 7);
        bestIs(x, 0, 2, new int[] {2, 7, 2, 102, 211});
        x.purse(0, 6);
        bestIs(x, 0, 2, new int[] {1, 3, 1, 211, NONE});
        x.purse(0, 2);
        bestIs(x, 0, 2, new int[] {0, 0, 0, NONE, NONE});
        Check.is("nothing is changed", x.share(0, 0), 0);
        int[][] wrong = {{5, 0, 0}, {-1, 0, 0}, {0, 3, 0}, {0, -1, 0}, {0, 0, 3}, {0, 0, 9}, {0, 0, 12}, {0, 0, -1},
            {MOST, 1, 1}, {0, MOST, 1}, {0, 0, LEAST}};
        for (int[] w : wrong) {
            Check.is("best BAD", x.best(w[0], w[1], w[2]), BAD);
        }
    }

    private static void bestRows() {
        FeatherShares more = Check.of("plain 4 1;share 0 1 30;share 0 2 10;money 0 99;");
        bestIs(more, 0, 1, new int[] {0, 0, 0, NONE, NONE});
        bestIs(more, 0, 2, new int[] {1, 15, 2, 106, 109});
        FeatherShares seller = Check.of("plain 0 9;share 0 1 2;money 0 99;");
        seller.purse(1, 990);
        bestIs(seller, 0, 2, new int[] {1, 9, 1, 101, NONE});
        seller.purse(1, 991);
        bestIs(seller, 0, 2, new int[] {0, 0, 0, NONE, NONE});
        FeatherShares split = Check.of("plain 4 1;share 0 1 5;share 0 2 5;money 0 99;");
        bestIs(split, 0, 2, new int[] {1, 4, 2, 101, 203});
        bestIs(new FeatherShares(), 4, 2, new int[] {0, 0, 0, NONE, NONE});
    }

    private static void leave() {
        FeatherShares x = Check.of("plain 0 9;share 0 1 10;trade 0 1 0 2;trade 1 0 0 1;trade 0 1 0 9;");
        for (int o = 0; o < 5; o++) {
            Check.is("a trade at its price changes no worth", x.leave(o, 0), NONE);
            Check.is("nor is there one to tell", x.leave(o, 1), NONE);
        }
        Check.is("what 2", x.leave(0, 2), BAD);
        Check.is("what -1", x.leave(0, -1), BAD);
        Check.is("owner 5", x.leave(5, 0), BAD);
        Check.is("owner -1", x.leave(-1, 0), BAD);
        Check.is("no plan", new FeatherShares().leave(0, 0), NONE);
    }

    private static void swings() {
        FeatherShares x = Check.of("plain 0 1;plain 0 1;share 0 0 50;share 0 1 49;share 0 2 1;share 1 3 9;");
        Check.is("0 swings {1} {2} {1 2}, each with or without 3, 4", x.swings(0, 0), 12);
        Check.is("1 swings {0}", x.swings(0, 1), 4);
        Check.is("2 swings {0}", x.swings(0, 2), 4);
        Check.is("3 swings none", x.swings(0, 3), 0);
        Check.is("alone in power he swings all sets, nobody too", x.swings(1, 3), 16);
        Check.is("others then none", x.swings(1, 0), 0);
        FeatherShares y = Check.of("plain 0 1;plain 0 1;share 0 0 5;share 0 1 5;");
        Check.is("half is not more than half", y.swings(0, 0), 8);
        Check.is("no feathers", y.swings(1, 0), 0);
        Check.is("goose 2", y.swings(2, 0), BAD);
        Check.is("goose -1", y.swings(-1, 0), BAD);
        Check.is("owner 5", y.swings(0, 5), BAD);
        Check.is("owner -1", y.swings(0, -1), BAD);
    }

    private static void power() {
        FeatherShares x = Check.of("plain 0 1;plain 0 1;share 0 0 50;share 0 1 49;share 0 2 1;");
        Check.is("12 of 20", x.power(0, 0, 0), 3);
        Check.is("12 of 20, below", x.power(0, 0, 1), 5);
        Check.is("4 of 20", x.power(0, 1, 0), 1);
        Check.is("4 of 20, below", x.power(0, 1, 1), 5);
        Check.is("0 of 20", x.power(0, 4, 0), 0);
        Check.is("0 of 20, below", x.power(0, 4, 1), 1);
        Check.is("nobody", x.power(1, 0, 0), 0);
        Check.is("nobody, below", x.power(1, 0, 1), 1);
        x.grant(1, 2, 1);
        Check.is("all", x.power(1, 2, 0), 1);
        Check.is("all, below", x.power(1, 2, 1), 1);
        Check.is("what 2", x.power(0, 0, 2), BAD);
        Check.is("what -1", x.power(0, 0, -1), BAD);
        Check.is("goose 2", x.power(2, 0, 0), BAD);
        Check.is("goose -1", x.power(-1, 0, 0), BAD);
        Check.is("owner 5", x.power(0, 5, 0), BAD);
        Check.is("owner -1", x.power(0, -1, 0), BAD);
    }

    private static void reign() {
        FeatherShares x = Check.of("plain 0 1;plain 0 1;plain 0 1;share 0 0 50;share 0 1 48;share 0 2 1;share 2 0 98;");
        Check.is("1 more than 49", x.reign(0, 0), 50);
        Check.is("1 more than 51", x.reign(0, 1), 52);
        Check.is("1 more than 98", x.reign(0, 2), 99);
        Check.is("1 more than 99", x.reign(0, 3), NONE);
        Check.is("nobody has any", x.reign(1, 3), 1);
        Check.is("98 of another one", x.reign(2, 3), 99);
        Check.is("goose 3", x.reign(3, 0), BAD);
        Check.is("goose -1", x.reign(-1, 0), BAD);
        Check.is("owner 5", x.reign(0, 5), BAD);
        Check.is("owner -1", x.reign(0, -1), BAD);
    }

    private static void fraction(String what, long over, long under, long dueOver, long dueUnder) {
        Check.is(what, over, dueOver);
        Check.is(what + ", below", under, dueUnder);
    }

    /** Behind a moult 11 to 10 is 10 to 10 (9 and a feather that grows), and the skin is of owner 0. */
    private static void luck() {
        FeatherShares x = Check.of("plain 0 3;plain 1 1;share 0 1 11;share 0 0 10;");
        fraction("0 behind 0", x.luck(5, 0, 0, 0, 0), x.luck(5, 0, 0, 0, 1), 0, 1);
        fraction("1 behind 0", x.luck(0, 0, 1, 0, 0), x.luck(0, 0, 1, 0, 1), 1, 1);
        fraction("0 behind 1", x.luck(4, 0, 0, 1, 0), x.luck(4, 0, 0, 1, 1), 2, 5);
        fraction("1 behind 1", x.luck(4, 0, 1, 1, 0), x.luck(4, 0, 1, 1, 1), 3, 5);
        fraction("1 behind 2", x.luck(3, 0, 1, 2, 0), x.luck(3, 0, 1, 2, 1), 49, 100);
        fraction("0 behind 8", x.luck(9, 0, 0, 8, 0), x.luck(9, 0, 0, 8, 1), 99999999, 100000000);
        fraction("never", x.luck(0, 0, 0, 8, 0), x.luck(0, 0, 0, 8, 1), 0, 1);
        fraction("always", x.luck(10, 0, 0, 8, 0), x.luck(10, 0, 0, 8, 1), 1, 1);
        fraction("nobody's", x.luck(5, 1, 1, 8, 0), x.luck(5, 1, 1, 8, 1), 0, 1);
        int[][] wrong = {{-1, 0, 0, 1, 0}, {11, 0, 0, 1, 0}, {5, 2, 0, 1, 0}, {5, -1, 0, 1, 0}, {5, 0, 5, 1, 0},
            {5, 0, -1, 1, 0}, {5, 0, 0, 9, 0}, {5, 0, 0, -1, 0}, {5, 0, 0, 1, 2}, {5, 0, 0, 1, -1}};
        for (int[] w : wrong) {
            Check.is("luck BAD", x.luck(w[0], w[1], w[2], w[3], w[4]), BAD);
        }
    }

    /** 24 feathers lose 3 and grow 2, then 23 are 2 and 21: they lose 2 and grow 1. */
    private static void mean() {
        FeatherShares x = Check.of("plain 0 3;plain 1 1;share 0 1 24;");
        fraction("behind 0", x.mean(5, 0, 0, 0), x.mean(5, 0, 0, 1), 24, 1);
        fraction("behind 1", x.mean(5, 0, 1, 0), x.mean(5, 0, 1, 1), 47, 2);
        fraction("behind 2", x.mean(5, 0, 2, 0), x.mean(5, 0, 2, 1), 23, 1);
        fraction("behind 2 by 1", x.mean(1, 0, 2, 0), x.mean(1, 0, 2, 1), 119, 5);
        fraction("never", x.mean(0, 0, 8, 0), x.mean(0, 0, 8, 1), 24, 1);
        fraction("always", x.mean(10, 0, 2, 0), x.mean(10, 0, 2, 1), 22, 1);
        fraction("no feathers", x.mean(5, 1, 8, 0), x.mean(5, 1, 8, 1), 0, 1);
        int[][] wrong = {{-1, 0, 1, 0}, {11, 0, 1, 0}, {5, 2, 1, 0}, {5, -1, 1, 0}, {5, 0, 9, 0}, {5, 0, -1, 0},
            {5, 0, 1, 2}, {5, 0, 1, -1}};
        for (int[] w : wrong) {
            Check.is("mean BAD", x.mean(w[0], w[1], w[2], w[3]), BAD);
        }
    }
}
