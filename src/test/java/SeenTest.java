/** Promises 34 to 39: what one was, what to look at next, trades by a seed. */
public final class SeenTest {
    private static final int BAD = FeatherShares.BAD, STATE = FeatherShares.STATE;
    private static final int FULL = FeatherShares.FULL, NONE = FeatherShares.NONE;
    private static final int MOST = Integer.MAX_VALUE, LEAST = Integer.MIN_VALUE;

    private static final String THREE_GEESE =
        "plain 0 1;swan 3 2;moulter 2 3;share 0 0 40;share 1 1 40;share 2 2 40;share 0 3 9;";

    public static void main(String[] args) {
        see();
        forget();
        kinds();
        skins();
        fromHowItStands();
        look();
        drift();
        Check.end("SeenTest");
    }

    private static void see() {
        FeatherShares x = Check.of("plain 0 1;");
        int[][] wrong = {{1, 0, 0, 0}, {-1, 0, 0, 0}, {0, 5, 0, 0}, {0, -1, 0, 0}, {0, 0, 21, 0}, {0, 0, -1, 0},
            {0, 0, 0, 100}, {0, 0, 0, -1}, {MOST, LEAST, MOST, LEAST}};
        for (int[] w : wrong) {
            Check.is("see BAD", x.see(w[0], w[1], w[2], w[3]), BAD);
        }
        Check.is("nothing is seen", x.count(0), 0);
        for (int i = 1; i <= 6; i++) {
            Check.is("see", x.see(0, 4, 20, 99), i);
        }
        Check.is("see FULL", x.see(0, 4, 20, 99), FULL);
        for (int[] w : wrong) {
            Check.is("see BAD where it is full", x.see(w[0], w[1], w[2], w[3]), BAD);
        }
        Check.is("six are seen", x.count(0), 6);
    }

    private static void forget() {
        FeatherShares x = Check.of("plain 4 1;share 0 0 8;");
        x.see(0, 0, 0, 8);
        x.see(0, 0, 1, 7);
        x.see(0, 0, 0, 1);
        Check.is("it can not be", x.kinds(0), 0);
        Check.is("forget(4)", x.forget(4), BAD);
        Check.is("forget(-1)", x.forget(-1), BAD);
        Check.is("forget(3)", x.forget(3), 3);
        Check.is("forget(2)", x.forget(2), 3);
        Check.is("the first two: plain, swan", x.kinds(0), 0b0101);
        Check.is("forget(1)", x.forget(1), 2);
        Check.is("the first: all", x.kinds(0), 0b1111);
        Check.is("see behind it", x.see(0, 0, 1, 5), 2);
        Check.is("moulter", x.kinds(0), 0b0010);
        Check.is("forget(0)", x.forget(0), 2);
        Check.is("count", x.count(0), 0);
    }

    private static void kinds() {
        FeatherShares x = Check.of("drake 4 1;plain 4 1;share 0 0 8;share 1 0 16;");
        Check.is("nothing seen: all", x.kinds(0), 0b1111);
        x.see(0, 0, 1, 8);
        Check.is("drake", x.kinds(0), 0b1000);
        Check.is("the other one: all", x.kinds(1), 0b1111);
        x.see(1, 0, 1, 15);
        Check.is("the other one must be a drake then", x.kinds(1), 0b1000);
        Check.is("all else as it is: the other one is none", x.kinds(0), 0);
        x.alter(1, 0, 3);
        Check.is("altered", x.kinds(0), 0b1000);
        Check.is("goose 2", x.kinds(2), BAD);
        Check.is("goose -1", x.kinds(-1), BAD);
        Check.is("nothing is changed", x.goose(0, 0), 3);
        FeatherShares y = Check.of("plain 4 1;share 0 0 99;");
        int plainBehind20 = 99;
        for (int week = 0; week < 20; week++) {
            plainBehind20 -= plainBehind20 / 8;
        }
        y.see(0, 0, 20, plainBehind20);
        Check.is("behind 20", y.kinds(0), 0b0101);
        y.see(0, 0, 20, plainBehind20 + 1);
        Check.is("not so behind 20", y.kinds(0), 0);
    }

    private static void skins() {
        FeatherShares x = Check.of("plain 4 1;plain 1 1;share 0 0 8;share 0 1 16;");
        Check.is("nothing seen: all", x.skins(0), 0b11111);
        x.see(0, 0, 1, 7);
        Check.is("not 0, who grows by 2", x.skins(0), 0b11110);
        x.see(0, 1, 1, 16);
        Check.is("1, who grows by 2", x.skins(0), 0b00010);
        Check.is("the other one's is no matter, the first's is", x.skins(1), 0);
        x.alter(0, 1, 1);
        Check.is("then all", x.skins(1), 0b11111);
        Check.is("goose 2", x.skins(2), BAD);
        Check.is("goose -1", x.skins(-1), BAD);
        Check.is("nothing is changed", x.goose(0, 1), 1);
    }

    private static void fromHowItStands() {
        FeatherShares x = Check.of("plain 4 1;share 0 0 16;");
        x.see(0, 0, 1, 14);
        Check.is("16 is 14 behind one", x.kinds(0), 0b0101);
        x.weeks(1);
        Check.is("14 is 13 behind one", x.kinds(0), 0b1000);
        x.keep(0);
        x.grant(0, 0, 16);
        Check.is("16 again", x.kinds(0), 0b0101);
        x.back(0);
        Check.is("what is seen stays by back()", x.kinds(0), 0b1000);
    }

    /** Of 8 feathers a plain one and a swan lose 1, a moulter 3, a drake none. */
    private static void look() {
        FeatherShares x = Check.of("plain 4 1;plain 4 1;share 0 0 8;share 1 4 0;");
        Check.is("behind one, at 0", x.look(0, 0), 10);
        Check.is("plain and swan are left", x.look(0, 1), 2);
        Check.is("no feathers, nothing to be told", x.look(1, 0), NONE);
        Check.is("nor how many", x.look(1, 1), NONE);
        x.see(0, 0, 1, 7);
        Check.is("plain and swan are never told apart", x.look(0, 0), NONE);
        x.see(0, 0, 1, 0);
        Check.is("none is left already", x.look(0, 1), NONE);
        Check.is("goose 2", x.look(2, 0), BAD);
        Check.is("goose -1", x.look(-1, 0), BAD);
        Check.is("what 2", x.look(0, 2), BAD);
        Check.is("what -1", x.look(0, -1), BAD);
        FeatherShares y = Check.of("plain 4 1;share 0 2 8;share 0 0 1;");
        Check.is("at 0 the moulter alone shows, at 2 the drake, too", y.look(0, 0), 12);
        Check.is("two are left", y.look(0, 1), 2);
        FeatherShares z = Check.of("plain 4 1;share 0 2 1;");
        Check.is("1 shows the moulter alone", z.look(0, 0), 12);
        Check.is("three are left", z.look(0, 1), 3);
        FeatherShares late = Check.of("swan 0 1;share 0 0 15;");
        Check.is("the skin's owner: 1 and 1, 3 and 2, 0 and 0", late.later(0, 0, 1), 15);
        Check.is("moulter: 14, then 13", late.look(0, 0), 10);
        Check.is("three are left there, and no look tells more", late.look(0, 1), 3);
    }

    private static void drift() {
        FeatherShares x = Check.of("plain 0 1;share 0 0 40;share 0 1 40;share 0 2 40;share 0 3 40;share 0 4 40;");
        Check.is("seed 0: got is 0, of 0 himself: a week", x.drift(0, 1, 0), 1);
        Check.is("no trade came", x.drift(0, 1, 1), 0);
        Check.is("as it would be", x.rule(1), 0);
        for (int seed : new int[] {0, 1, 7, -1, 12345, MOST, LEAST, 1 << 16}) {
            for (int n : new int[] {1, 2, 60}) {
                driftIs(THREE_GEESE, 3, seed, n);
                driftIs("plain 0 1;share 0 0 40;share 0 2 40;", 1, seed, n);
            }
        }
        Check.is("n 0", x.drift(1, 0, 0), BAD);
        Check.is("n 61", x.drift(1, 61, 0), BAD);
        Check.is("n -1", x.drift(1, -1, 0), BAD);
        Check.is("what 2", x.drift(1, 1, 2), BAD);
        Check.is("what -1", x.drift(1, 1, -1), BAD);
        Check.is("no geese", new FeatherShares().drift(1, 1, 0), STATE);
        Check.is("BAD ahead of no geese", new FeatherShares().drift(1, 0, 0), BAD);
    }

    /** The same by calls of buy() and weeks(), the seed in long numbers. */
    private static void driftIs(String text, int geese, int firstSeed, int n) {
        FeatherShares x = Check.of(text);
        int laidDue = x.drift(firstSeed, n, 0);
        int cameDue = x.drift(firstSeed, n, 1);
        long seed = firstSeed & 0xffffffffL;
        int laid = 0;
        int came = 0;
        for (int i = 0; i < n; i++) {
            seed = (seed * 1103515245L + 12345L) & 0xffffffffL;
            int got = (int) (seed / 65536 % 32768);
            if (x.buy(got / 4 % 5, got / 32 % 5, got % geese, 1 + got / 256 % 9) >= 0) {
                came++;
            } else {
                laid += x.weeks(1);
            }
        }
        Check.is("drift eggs by seed " + firstSeed, laidDue, laid);
        Check.is("drift trades by seed " + firstSeed, cameDue, came);
    }
}
