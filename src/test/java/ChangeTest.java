/** Promises 11 to 15: what is changed. */
public final class ChangeTest {
    private static final int BAD = FeatherShares.BAD, FULL = FeatherShares.FULL;
    private static final int MOST = Integer.MAX_VALUE, LEAST = Integer.MIN_VALUE;

    public static void main(String[] args) {
        alter();
        purse();
        grant();
        plan();
        cut();
        Check.end("ChangeTest");
    }

    private static void alter() {
        FeatherShares x = Check.of("moulter 3 7;plain 2 1;");
        Check.is("kind", x.alter(0, 0, 3), 1);
        Check.is("kind then", x.goose(0, 0), 3);
        Check.is("skin", x.alter(0, 1, 4), 3);
        Check.is("skin then", x.goose(0, 1), 4);
        Check.is("price", x.alter(0, 2, 9), 7);
        Check.is("price then", x.goose(0, 2), 9);
        Check.is("least kind", x.alter(0, 0, 0), 3);
        Check.is("least skin", x.alter(0, 1, 0), 4);
        Check.is("least price", x.alter(0, 2, 1), 9);
        int[][] wrong = {{0, 0, 4}, {0, 0, -1}, {0, 1, 5}, {0, 1, -1}, {0, 2, 0}, {0, 2, 10}, {0, 3, 1}, {0, -1, 1},
            {2, 0, 0}, {-1, 0, 0}, {MOST, 0, 0}, {0, LEAST, 0}, {0, 0, LEAST}};
        for (int[] w : wrong) {
            Check.is("alter BAD", x.alter(w[0], w[1], w[2]), BAD);
        }
        Check.is("kind stays", x.goose(0, 0), 0);
        Check.is("skin stays", x.goose(0, 1), 0);
        Check.is("price stays", x.goose(0, 2), 1);
        Check.is("the other goose stays", x.goose(1, 1), 2);
    }

    private static void purse() {
        FeatherShares x = new FeatherShares();
        Check.is("purse", x.purse(4, 999), 20);
        Check.is("purse again", x.purse(4, 0), 999);
        Check.is("money then", x.owner(4, 0), 0);
        Check.is("v 1000", x.purse(4, 1000), BAD);
        Check.is("v -1", x.purse(4, -1), BAD);
        Check.is("owner 5", x.purse(5, 1), BAD);
        Check.is("owner -1", x.purse(-1, 1), BAD);
        Check.is("all money", x.rule(3), 80);
    }

    private static void grant() {
        FeatherShares x = Check.of("moulter 3 7;plain 2 1;share 1 4 6;");
        Check.is("grant", x.grant(1, 4, 99), 6);
        Check.is("grant again", x.grant(1, 4, 0), 99);
        Check.is("grant another", x.grant(0, 4, 5), 0);
        Check.is("share then", x.share(0, 4), 5);
        int[][] wrong = {{0, 0, 100}, {0, 0, -1}, {0, 5, 1}, {0, -1, 1}, {2, 0, 1}, {-1, 0, 1}, {MOST, 4, 1}};
        for (int[] w : wrong) {
            Check.is("grant BAD", x.grant(w[0], w[1], w[2]), BAD);
        }
        Check.is("all feathers", x.count(4), 5);
    }

    private static void plan() {
        FeatherShares x = Check.of("moulter 3 7;plain 2 1;");
        int[][] wrong = {{0, 0, 0, 1}, {5, 0, 0, 1}, {0, 5, 0, 1}, {-1, 0, 0, 1}, {0, -1, 0, 1}, {0, 1, 2, 1},
            {0, 1, -1, 1}, {0, 1, 0, 0}, {0, 1, 0, 10}, {0, 1, 0, -1}, {MOST, LEAST, MOST, LEAST}};
        for (int[] w : wrong) {
            Check.is("plan BAD", x.plan(w[0], w[1], w[2], w[3]), BAD);
        }
        for (int i = 1; i <= 6; i++) {
            Check.is("plan", x.plan(4, 3, 1, i), i);
        }
        Check.is("plan FULL", x.plan(4, 3, 1, 1), FULL);
        for (int[] w : wrong) {
            Check.is("plan BAD where it is full", x.plan(w[0], w[1], w[2], w[3]), BAD);
        }
        Check.is("last one", x.trade(5, 3), 6);
        Check.is("buyer", x.trade(5, 0), 4);
        Check.is("seller", x.trade(5, 1), 3);
        Check.is("goose", x.trade(5, 2), 1);
        Check.is("how many", x.rule(2), 6);
        Check.is("a new object has no goose to plan", new FeatherShares().plan(0, 1, 0, 1), BAD);
    }

    private static void cut() {
        FeatherShares x = Check.of("moulter 3 7;trade 0 1 0 1;trade 0 1 0 2;trade 0 1 0 3;");
        Check.is("cut(4)", x.cut(4), BAD);
        Check.is("cut(-1)", x.cut(-1), BAD);
        Check.is("cut(3)", x.cut(3), 3);
        Check.is("cut(1)", x.cut(1), 3);
        Check.is("first one", x.trade(0, 3), 1);
        Check.is("then", x.rule(2), 1);
        Check.is("plan behind", x.plan(1, 2, 0, 7), 2);
        Check.is("its place", x.trade(1, 3), 7);
        Check.is("cut(0)", x.cut(0), 2);
        Check.is("cut(1) of 0", x.cut(1), BAD);
    }
}
