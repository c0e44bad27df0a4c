/** Which answer comes where several would fit: BAD, STATE, FULL, NONE, the FAULTS, "the first that fits". */
public final class FirstThatFitsTest {
    private static final int BAD = FeatherShares.BAD, STATE = FeatherShares.STATE;
    private static final int FULL = FeatherShares.FULL, NONE = FeatherShares.NONE;
    private static final int MOST = Integer.MAX_VALUE, LEAST = Integer.MIN_VALUE;
    private static final int NULL_LAID = -11, INDEX_LAID = -12, SIZE_FAULT = -14;
    private static final int INDEX = 2, CAST = 3;

    public static void main(String[] args) {
        Check.sentence("STATE -2 (as told), FULL -3, NONE -4 (there is none), the first that fits");
        Check.is("BAD", BAD, -1);
        Check.is("STATE", STATE, -2);
        Check.is("FULL", FULL, -3);
        Check.is("NONE", NONE, -4);
        badAheadOfFull();
        badAheadOfStateOfTrades();
        badAheadOfState();
        badAheadOfNone();
        stateAheadOfNone();
        badAheadOfTheMachine();
        nullAheadOfIndex();
        nullAheadOfCastAheadOfIndex();
        noTradesAheadOfAnyFault();
        refusedTradesAndFaults();
        faultsOfATextByTheirPlace();
        Check.end("FirstThatFitsTest");
    }

    private static FeatherShares full() {
        return Worlds.ALL[3].make();
    }

    private static FeatherShares poor() {
        return Worlds.ALL[4].make();
    }

    private static void badAheadOfFull() {
        Check.sentence("BAD; FULL: more than 160.");
        FeatherShares x = full();
        Check.is("feed(32) of 160", x.feed(32), FULL);
        Check.is("feed(128) of 160", x.feed(128), BAD);
        Check.is("feed(-1) of 160", x.feed(-1), BAD);
        Check.sentence("BAD (also alike); FULL.");
        Check.is("plan of six", x.plan(0, 1, 0, 1), FULL);
        Check.is("plan alike of six", x.plan(3, 3, 0, 1), BAD);
        Check.is("plan of 10 of six", x.plan(0, 1, 0, 10), BAD);
        Check.is("plan of goose 3 of six", x.plan(0, 1, 3, 1), BAD);
        Check.sentence("BAD; FULL: WEEK would be 1000 or more.");
        Check.is("weeks(1) at 999", x.weeks(1), FULL);
        Check.is("weeks(30) at 999", x.weeks(30), FULL);
        Check.is("weeks(31) at 999", x.weeks(31), BAD);
        Check.is("weeks(-1) at 999", x.weeks(-1), BAD);
        Check.is("weeks(MOST) at 999", x.weeks(MOST), BAD);
        Check.sentence("how many are. BAD; FULL.");
        Check.is("see of six", x.see(0, 0, 0, 0), FULL);
        Check.is("see of 100 of six", x.see(0, 0, 0, 100), BAD);
        Check.is("see behind 21 of six", x.see(0, 0, 21, 0), BAD);
        Check.is("see of goose 3 of six", x.see(3, 0, 0, 0), BAD);
    }

    private static void badAheadOfStateOfTrades() {
        Check.sentence("BAD (also alike); STATE: it can not be.");
        FeatherShares x = poor();
        Check.is("buy of none", x.buy(0, 1, 0, 1), STATE);
        Check.is("pluck of none", x.pluck(0, 1, 0, 1), STATE);
        int[][] wrong = {{1, 1, 0, 1}, {0, 0, 0, 9}, {5, 0, 0, 1}, {0, 5, 0, 1}, {0, 1, 3, 1}, {0, 1, 0, 0}, {0, 1, 0, 10}};
        for (int[] w : wrong) {
            Check.is("buy of none, " + w[0] + " of " + w[1], x.buy(w[0], w[1], w[2], w[3]), BAD);
            Check.is("pluck of none, " + w[0] + " of " + w[1], x.pluck(w[0], w[1], w[2], w[3]), BAD);
        }
        FeatherShares rich = full();
        Check.is("pluck of himself with 99", rich.pluck(2, 2, 1, 1), BAD);
        Check.is("buy of himself with 99", rich.buy(2, 2, 1, 1), BAD);
    }

    private static void badAheadOfState() {
        Check.sentence("BAD; STATE: there are no GEESE.");
        FeatherShares none = new FeatherShares();
        Check.is("drift without geese", none.drift(0, 1, 0), STATE);
        Check.is("drift 0 times without geese", none.drift(0, 0, 0), BAD);
        Check.is("drift 61 times without geese", none.drift(0, 61, 1), BAD);
        Check.is("drift what 2 without geese", none.drift(0, 1, 2), BAD);
        Check.is("drift what -1 without geese", none.drift(0, 60, -1), BAD);
        Check.sentence("BAD; STATE: there is none.");
        Check.is("back(0) of none", none.back(0), STATE);
        Check.is("back(1) of none", none.back(1), STATE);
        Check.is("back(2) of none", none.back(2), BAD);
        Check.is("back(-1) of none", none.back(-1), BAD);
        Check.sentence("BAD; STATE: it is his already; NONE: by none.");
        FeatherShares x = Check.of("plain 0 1;share 0 2 9;");
        Check.is("need of his", x.need(2, 0, 0), STATE);
        Check.is("need of his, what 2", x.need(2, 0, 2), BAD);
        Check.is("need of his, what -1", x.need(2, 0, -1), BAD);
        Check.is("need of goose 1", x.need(2, 1, 0), BAD);
    }

    private static void badAheadOfNone() {
        FeatherShares x = poor();
        Check.sentence("4 whose THE EGG is now (NONE: nobody's). BAD.");
        Check.is("egg of nobody", x.goose(0, 4), NONE);
        Check.is("goose what 5", x.goose(0, 5), BAD);
        Check.is("egg of goose 3", x.goose(3, 4), BAD);
        Check.sentence("the first that is passed over (1: its place, from 0 on; NONE)");
        Check.is("passed over of no plan", x.runs(1), NONE);
        Check.is("runs what 3 of no plan", x.runs(3), BAD);
        Check.sentence("BAD; NONE: behind none.");
        Check.is("turn of nobody's", x.turn(0), NONE);
        Check.is("turn of goose 3", x.turn(3), BAD);
        x.grant(0, 0, 8);
        Check.is("bare of 8 that grow again", x.bare(0, 0), NONE);
        Check.is("bare of -1", x.bare(0, -1), BAD);
        Check.is("bare of 496", x.bare(0, 496), BAD);
        Check.sentence("BAD; STATE: it is his already; NONE: by none.");
        Check.is("need without money", x.need(1, 0, 0), NONE);
        Check.is("need without money, what 2", x.need(1, 0, 2), BAD);
        Check.is("need without money, owner 5", x.need(5, 0, 0), BAD);
        Check.sentence("10 times the GOOSE and how many; NONE: not so many). BAD.");
        Check.is("first of no row", x.best(1, 2, 10), NONE);
        Check.is("first of no row, n 3", x.best(1, 3, 10), BAD);
        Check.is("third of no row", x.best(1, 2, 12), BAD);
        Check.sentence("that WORTH (1). BAD; NONE: none.");
        Check.is("leave of no plan", x.leave(0, 0), NONE);
        Check.is("leave of no plan, what 2", x.leave(0, 2), BAD);
        Check.is("leave of no plan, owner 5", x.leave(5, 1), BAD);
        Check.sentence("BAD; NONE: by none.");
        x.grant(0, 0, 99);
        Check.is("reign against 99", x.reign(0, 1), NONE);
        Check.is("reign of goose 3", x.reign(3, 1), BAD);
        Check.sentence("how many these are (1). BAD; NONE: nowhere.");
        Check.is("look where nothing is told apart", x.look(1, 0), NONE);
        Check.is("look what 2", x.look(1, 2), BAD);
        Check.sentence("3 CELLS of SHEET 0 (NONE: nothing)");
        Check.is("cells of nothing", x.count(3), NONE);
        Check.is("count(6)", x.count(6), BAD);
    }

    private static void stateAheadOfNone() {
        Check.sentence("BAD; STATE: it is his already; NONE: by none.");
        FeatherShares x = Check.of("plain 0 9;share 0 2 9;money 2 0;");
        Check.is("his, who can buy nothing", x.need(2, 0, 0), STATE);
        Check.is("his, who can buy nothing, money", x.need(2, 0, 1), STATE);
        Check.is("another one who can buy too little", x.need(3, 0, 0), NONE);
    }

    private static void badAheadOfTheMachine() {
        FeatherShares x = new FeatherShares();
        Check.sentence("BAD: also n above 40; -14 (SIZE): n below 0.");
        Check.is("-1 cells", x.sheet(0, 0, -1), SIZE_FAULT);
        Check.is("LEAST cells", x.sheet(3, 2, LEAST), SIZE_FAULT);
        Check.is("-1 cells of sheet 4", x.sheet(4, 0, -1), BAD);
        Check.is("-1 cells of sheet -1", x.sheet(-1, 0, -1), BAD);
        Check.is("-1 cells of lane 3", x.sheet(0, 3, -1), BAD);
        Check.is("-1 cells of lane -1", x.sheet(0, -1, -1), BAD);
        Check.sentence("BAD: k; -10 less the FAULT: NULL, INDEX.");
        Check.is("cell -1 of sheet 4", x.lay(4, -1, 0), BAD);
        Check.is("cell 0 of sheet -1", x.lay(-1, 0, 0), BAD);
        Check.sentence("BAD: k, lane, n;");
        Check.is("read of nothing", x.read(0, 0, 0, 1), 0);
        Check.is("read 11 of nothing", x.read(0, 0, 0, 11), BAD);
        Check.is("read -1 of nothing", x.read(0, 0, 0, -1), BAD);
        Check.is("read of nothing as of lane 3", x.read(0, 3, 0, 1), BAD);
        Check.is("read of sheet 4 from -1", x.read(4, 0, -1, 1), BAD);
        x.sheet(1, 1, 4);
        Check.is("read of shorts as of lane -1", x.read(1, -1, 99, 1), BAD);
        Check.is("read 11 as of another lane", x.read(1, 0, 99, 11), BAD);
    }

    private static void nullAheadOfIndex() {
        Check.sentence("-10 less the FAULT: NULL, INDEX.");
        FeatherShares x = new FeatherShares();
        for (int i : new int[] {0, 39, 40, -1, MOST, LEAST}) {
            Check.is("lay " + i + " of nothing", x.lay(2, i, 5), NULL_LAID);
        }
        x.sheet(2, 2, 40);
        for (int i : new int[] {40, -1, MOST, LEAST}) {
            Check.is("lay " + i + " of 40", x.lay(2, i, 5), INDEX_LAID);
        }
        Check.is("lay 39 of 40", x.lay(2, 39, 5), 1);
    }

    private static void tears(FeatherShares x, int k, int lane, int f, int fault) {
        x.read(3, 0, 0, 0);
        Check.is("torn() behind a read of n 0", x.torn(), 0);
        Check.is("read(" + k + ", " + lane + ", " + f + ", 1)", x.read(k, lane, f, 1), 0);
        Check.is("torn() behind it", x.torn(), fault);
    }

    private static void nullAheadOfCastAheadOfIndex() {
        Check.sentence("1 NULL (nothing), 2 INDEX, 3 CAST (another lane), 4 SIZE (below 0).");
        FeatherShares x = Check.of("plain 0 1;share 0 1 9;");
        x.sheet(1, 1, 4);
        for (int f : new int[] {0, -1, 1, MOST, LEAST}) {
            for (int lane = 0; lane < 3; lane++) {
                tears(x, 0, lane, f, 1);
            }
            tears(x, 1, 0, f, CAST);
            tears(x, 1, 2, f, CAST);
        }
        tears(x, 1, 1, -1, INDEX);
        tears(x, 1, 1, 1, INDEX);
    }

    private static void noTradesAheadOfAnyFault() {
        Check.sentence("of n 0: 0, no FAULT, whatever the SHEET is");
        FeatherShares x = Check.of("plain 0 1;share 0 1 9;");
        x.sheet(1, 1, 4);
        int[][] whatever = {{0, 0, 0}, {0, 2, -1}, {1, 0, 0}, {1, 2, 99}, {1, 1, -1}, {1, 1, MOST}, {1, 1, LEAST}, {1, 1, 0}};
        for (int[] w : whatever) {
            x.read(0, 0, 0, 1);
            Check.is("torn() by nothing", x.torn(), 1);
            Check.is("n 0", x.read(w[0], w[1], w[2], 0), 0);
            Check.is("torn() of n 0", x.torn(), 0);
        }
    }

    private static void refusedTradesAndFaults() {
        Check.sentence("-20 less i (0 on): the i-th, whole, is refused by buy() (in whichever way): then none came; the first met.");
        FeatherShares x = Check.of("plain 0 1;share 0 1 9;");
        x.sheet(0, 0, 11);
        Worlds.layRow(x, 0, 0, 1, 0, 2, 7, 1, 0, 2, 0, 1, 0);
        Check.is("one came, the second is BAD, the third not whole", x.read(0, 0, 0, 3), -21);
        Check.is("none came", x.share(0, 0), 0);
        Check.is("the second alone", x.read(0, 0, 4, 3), -20);
        Check.is("the third is not whole", x.read(0, 0, 8, 3), 0);
        Check.is("INDEX", x.torn(), INDEX);
        x.lay(0, 4, 2);
        Check.is("two came, the third is not whole", x.read(0, 0, 0, 3), 2);
        Check.is("INDEX then", x.torn(), INDEX);
        Check.is("feathers that came", x.share(0, 0) * 10 + x.share(0, 2), 22);
        x.sheet(1, 0, 8);
        Worlds.layRow(x, 1, 0, 1, 0, 9, 8, 8, 8, 8);
        Check.is("STATE of the first ahead of BAD of the second", x.read(1, 0, 0, 2), -20);
        x.lay(1, 3, 1);
        Check.is("BAD of the second", x.read(1, 0, 0, 2), -21);
    }

    private static void faultIs(String text, int place, int fault) {
        FeatherShares x = new FeatherShares();
        Check.is("text() of " + text, Check.tell(x, text), -10 - place);
        Check.is("fault() of " + text, x.fault(), fault);
    }

    private static void faultsOfATextByTheirPlace() {
        Check.sentence("FAULTS, the first met as it is read (a TOKEN is read when the one before has been taken)");
        faultIs("fox #", 0, 2);
        faultIs("#fox", 0, 1);
        faultIs("plain 5#", 6, 3);
        faultIs("plain 4#", 7, 1);
        faultIs("plain 5 5 5", 6, 3);
        faultIs("plain 5", 6, 3);
        faultIs("plain 4", 7, 2);
        faultIs("plain 0 0 ;", 8, 3);
        faultIs("share 3 9 123", 6, 3);
        faultIs("share 2 9 123", 8, 3);
        faultIs("share 2 4 123", 10, 1);
        faultIs("share 2 4 12", 12, 2);
        faultIs("share 2 4 12;", 13, 6);
        faultIs("share 2 4 12;share 2 4 123;", 21, 4);
        faultIs("share 2 4 12;share 2 5 1;", 21, 3);
        faultIs("share 2 4 12;share 2 4", 21, 4);
        faultIs("share 2 4 12;share 1 4", 22, 2);
        faultIs("money 0 1;money 0#", 16, 4);
        faultIs("trade 2 2#", 8, 3);
        faultIs("trade 2 2 9 9", 8, 3);
        faultIs("trade 2 1 2 0", 12, 3);
        faultIs("trade 2 1 2 9", 13, 2);
        faultIs("trade 2 1 2 9;", 14, 6);
        faultIs("plain 0 1;plain 0 1;plain 0 1;swan#", 30, 5);
        faultIs("plain 0 1;plain 0 1;plain 0 1;swa#", 30, 2);
        faultIs("plain 0 1;share 1 0 1;plain 0 1;#", 32, 1);
        faultIs("plain 0 1;share 1 0 1;", 22, 6);
    }
}
