import java.util.Random;

/** The edges of images, of sheets and what the machine finds in them, of counts (promises 40 to 46). */
public final class EdgeSheetTest {
    private static final int BAD = FeatherShares.BAD, STATE = FeatherShares.STATE, NONE = FeatherShares.NONE;
    private static final int MOST = Integer.MAX_VALUE, LEAST = Integer.MIN_VALUE;
    private static final int NULL_LAID = -11, INDEX_LAID = -12, SIZE_FAULT = -14;
    private static final int NULL = 1, INDEX = 2, CAST = 3;

    public static void main(String[] args) {
        imagesThatThereAreNot();
        imageOfAll();
        imagesAreCopies();
        imageOfNoGeese();
        whatIsNoPartOfAnImage();
        sheetsThatThereAreNot();
        sheetOfEachSize();
        sheetIsNew();
        sizeLeavesTheSheet();
        layAtEachEdge();
        lowestBits();
        readNothing();
        readAtTheEndOfASheet();
        readFromWrapsNot();
        readOfEachLane();
        readUpToTen();
        readOneBehindAnother();
        readIsRefused();
        readInWhicheverWay();
        readWithoutGeese();
        readLikeBuy();
        tornStays();
        counts();
        Check.end("EdgeSheetTest");
    }

    private static void imagesThatThereAreNot() {
        Check.sentence("All is as IMAGE k: WEEK. BAD; STATE: there is none.");
        for (int k = -1; k <= 3; k++) {
            FeatherShares x = Check.of("plain 0 1;");
            x.weeks(3);
            boolean is = k == 0 || k == 1;
            Check.is("back(" + k + ") of none", x.back(k), is ? STATE : BAD);
            Check.is("keep(" + k + ")", x.keep(k), is ? 0 : BAD);
            x.weeks(4);
            Check.is("back(" + k + ")", x.back(k), is ? 3 : BAD);
            if (is) {
                Check.is("the other one is none", x.back(1 - k), STATE);
                Check.is("keep again", x.keep(k), 1);
                Check.is("keep the other one", x.keep(1 - k), 0);
                Check.is("both are", x.count(1), 2);
            }
        }
        FeatherShares x = new FeatherShares();
        Check.is("back(MOST)", x.back(MOST), BAD);
        Check.is("back(LEAST)", x.back(LEAST), BAD);
        Check.is("keep(MOST)", x.keep(MOST), BAD);
        Check.is("back(32)", x.back(32), BAD);
    }

    private static void imageOfAll() {
        Check.sentence("IMAGE k (0, 1) is GEESE, SHARES, MONEY, EGGS (all of them), WEEK, THE PLAN: whether there was one (1, 0). BAD.");
        for (Worlds.World world : Worlds.ALL) {
            for (int k = 0; k < 2; k++) {
                FeatherShares x = world.make();
                String before = Worlds.flock(x);
                String plan = plan(x);
                int week = x.rule(1);
                x.keep(k);
                for (int g = 0; g < world.geese(); g++) {
                    x.alter(g, 0, (x.goose(g, 0) + 1) % 4);
                    x.alter(g, 1, (x.goose(g, 1) + 1) % 5);
                    x.alter(g, 2, x.goose(g, 2) % 9 + 1);
                    for (int o = 0; o < 5; o++) {
                        x.grant(g, o, (x.share(g, o) + 1) % 100);
                    }
                }
                for (int o = 0; o < 5; o++) {
                    x.purse(o, (x.owner(o, 0) + 1) % 1000);
                }
                x.weeks(1);
                x.cut(0);
                x.plan(1, 2, 0, 9);
                Check.is(world.name() + ": back", x.back(k), week);
                Check.same(world.name() + ": behind back", Worlds.flock(x), before);
                Check.same(world.name() + ": its plan", plan(x), plan);
            }
        }
    }

    private static String plan(FeatherShares x) {
        StringBuilder told = new StringBuilder();
        for (int i = 0; i < x.rule(2); i++) {
            told.append(x.trade(i, 0)).append(x.trade(i, 1)).append(x.trade(i, 2)).append(x.trade(i, 3)).append(' ');
        }
        return told.toString();
    }

    private static void imagesAreCopies() {
        Check.sentence("All is as IMAGE k");
        FeatherShares x = Check.of("plain 0 3;share 0 1 30;trade 0 1 0 2;");
        x.keep(0);
        for (int i = 0; i < 2; i++) {
            x.grant(0, 1, 5);
            x.purse(2, 7);
            x.alter(0, 2, 9);
            x.cut(0);
            x.plan(4, 3, 0, 9);
            x.weeks(5);
            x.keep(1);
            Check.is("back(0)", x.back(0), 0);
            Check.is("share", x.share(0, 1), 30);
            Check.is("money", x.owner(2, 0), 20);
            Check.is("price", x.goose(0, 2), 3);
            Check.is("how many of the plan", x.trade(0, 3), 2);
            Check.is("eggs", x.rule(4), 0);
            Check.is("back(1)", x.back(1), 5);
            Check.is("its eggs", x.rule(4), 5);
            Check.is("its plan", x.trade(0, 3), 9);
            Check.is("back(0) again", x.back(0), 0);
        }
    }

    private static void imageOfNoGeese() {
        Check.sentence("whether there was one (1, 0)");
        FeatherShares x = new FeatherShares();
        x.purse(0, 500);
        x.weeks(30);
        Check.is("keep", x.keep(0), 0);
        x.purse(0, 1);
        x.weeks(1);
        Check.is("back", x.back(0), 30);
        Check.is("money", x.owner(0, 0), 500);
        Check.is("geese", x.rule(0), 0);
        Check.is("a text", Check.tell(x, "plain 0 1;"), 1);
        Check.is("it is gone", x.back(0), STATE);
        Check.is("the goose stays", x.rule(0), 1);
        Check.is("a fault", Check.tell(x, "plain"), -15);
        x.keep(1);
        Check.is("a fault leaves it", Check.tell(x, "plain"), -15);
        Check.is("it is", x.keep(1), 1);
    }

    private static void whatIsNoPartOfAnImage() {
        Check.sentence("IMAGE k (0, 1) is GEESE, SHARES, MONEY, EGGS (all of them), WEEK, THE PLAN");
        FeatherShares x = Check.of("plain 0 1;share 0 1 9;");
        x.keep(0);
        x.see(0, 1, 0, 9);
        x.feed('?');
        x.sheet(0, 0, 7);
        x.read(0, 1, 0, 1);
        x.keep(1);
        Check.is("back", x.back(0), 0);
        Check.is("seen stays", x.count(0), 1);
        Check.is("images stay", x.count(1), 2);
        Check.is("the tape stays", x.count(2), 1);
        Check.is("the sheet stays", x.count(3), 7);
        Check.is("torn() stays", x.torn(), CAST);
        Check.is("a text of it", x.text(), -10);
        x.back(0);
        Check.is("fault() stays", x.fault(), 1);
    }

    private static void sheetsThatThereAreNot() {
        Check.sentence("SHEETS 0 to 3 are rows of BYTES (lane 0), SHORTS (1), INTS (2), all with a sign, with 0 to 40 CELLS, or nothing (at first).");
        FeatherShares x = new FeatherShares();
        for (int k : new int[] {-1, 4, 5, MOST, LEAST}) {
            Check.is("sheet(" + k + ")", x.sheet(k, 0, 1), BAD);
            Check.is("lay(" + k + ")", x.lay(k, 0, 1), BAD);
            Check.is("read(" + k + ")", x.read(k, 0, 0, 1), BAD);
            Check.is("read(" + k + ") of none", x.read(k, 0, 0, 0), BAD);
        }
        for (int lane : new int[] {-1, 3, MOST, LEAST}) {
            Check.is("sheet of lane " + lane, x.sheet(0, lane, 1), BAD);
            Check.is("read as of lane " + lane, x.read(0, lane, 0, 1), BAD);
        }
        Check.is("sheet 0 has nothing", x.count(3), NONE);
        Check.is("torn() is none", x.torn(), 0);
    }

    private static void sheetOfEachSize() {
        Check.sentence("A SHEET is a new row of CELLS 0: 1. BAD: also n above 40; -14 (SIZE): n below 0.");
        for (int k = 0; k < 4; k++) {
            for (int lane = 0; lane < 3; lane++) {
                FeatherShares x = new FeatherShares();
                for (int n = -2; n <= 42; n++) {
                    Check.is("sheet(" + k + ", " + lane + ", " + n + ")", x.sheet(k, lane, n), n < 0 ? SIZE_FAULT : n > 40 ? BAD : 1);
                    int size = Math.max(NONE, Math.min(40, n));
                    Check.is("its last cell", x.lay(k, size - 1, 0), n < 0 ? NULL_LAID : n == 0 ? INDEX_LAID : 1);
                    Check.is("one behind", x.lay(k, size, 0), n < 0 ? NULL_LAID : INDEX_LAID);
                    Check.is("cells of sheet 0", x.count(3), k == 0 && n >= 0 ? size : NONE);
                }
                Check.is("MOST cells", x.sheet(k, lane, MOST), BAD);
                Check.is("LEAST cells", x.sheet(k, lane, LEAST), SIZE_FAULT);
            }
        }
    }

    private static void sheetIsNew() {
        Check.sentence("A SHEET is a new row of CELLS 0");
        FeatherShares x = Check.of("plain 0 1;share 0 1 30;");
        x.sheet(2, 2, 40);
        for (int i = 0; i < 40; i++) {
            x.lay(2, i, 1);
        }
        x.sheet(2, 2, 40);
        Worlds.layRow(x, 2, 2, 1);
        for (int f = 0; f <= 36; f++) {
            Check.is("of no feathers, or of himself, from " + f, x.read(2, 2, f, 1), -20);
        }
        x.lay(2, 3, 7);
        Check.is("cell 2 is 0: of goose 0 seven", x.read(2, 2, 0, 1), 1);
        Check.is("seven", x.share(0, 2), 7);
        x.lay(2, 37, 1);
        x.lay(2, 39, 3);
        Check.is("cells 36 and 38 are 0", x.read(2, 2, 36, 1), 1);
        Check.is("three", x.share(0, 0), 3);
        x.sheet(1, 0, 4);
        Check.is("the other ones stay", x.read(2, 2, 0, 1), 1);
    }

    private static void sizeLeavesTheSheet() {
        Check.sentence("what is refused changes nothing");
        FeatherShares x = Check.of("plain 0 1;share 0 1 30;");
        x.sheet(0, 1, 4);
        Worlds.layRow(x, 0, 2, 1, 0, 7);
        Check.is("SIZE", x.sheet(0, 0, -1), SIZE_FAULT);
        Check.is("BAD by 41", x.sheet(0, 0, 41), BAD);
        Check.is("BAD by its lane", x.sheet(0, 3, 4), BAD);
        Check.is("cells", x.count(3), 4);
        Check.is("it is as of lane 1 still", x.read(0, 1, 0, 1), 1);
        Check.is("seven", x.share(0, 2), 7);
        FeatherShares y = new FeatherShares();
        Check.is("SIZE of nothing", y.sheet(0, 0, -1), SIZE_FAULT);
        Check.is("nothing still", y.lay(0, 0, 0), NULL_LAID);
    }

    private static void layAtEachEdge() {
        Check.sentence("CELL i of a SHEET becomes v (its lowest bits): 1. BAD: k; -10 less the FAULT: NULL, INDEX.");
        for (int n = 0; n <= 40; n += 8) {
            FeatherShares x = new FeatherShares();
            for (int i : new int[] {0, -1, 39, 40, MOST, LEAST}) {
                Check.is("lay " + i + " of nothing", x.lay(3, i, 1), NULL_LAID);
            }
            x.sheet(3, n % 3, n);
            for (int i = -2; i <= 42; i++) {
                Check.is("lay " + i + " of " + n, x.lay(3, i, i), i >= 0 && i < n ? 1 : INDEX_LAID);
            }
            Check.is("lay MOST", x.lay(3, MOST, 1), INDEX_LAID);
            Check.is("lay LEAST", x.lay(3, LEAST, 1), INDEX_LAID);
            Check.is("lay of another sheet", x.lay(2, 0, 1), NULL_LAID);
            Check.is("lay leaves torn()", x.torn(), 0);
        }
    }

    /** A value is the same as one from 1 to 9 in its lane, or no number of feathers there. */
    private static void lowestBits() {
        Check.sentence("becomes v (its lowest bits)");
        int[] values = {9, 10, 0, 127, 128, 129, 137, 255, 256, 257, 265, 266, 32767, 32768, 32769, 65535, 65536, 65537,
            65545, 65546, 0x10009, 0x1000009, 0x80000009, 0x7fffff09, 0x7fff0009, -1, -9, -127, -128, -247, -255, -256,
            -65527, -65535, -65536, MOST, LEAST, LEAST + 5};
        for (int lane = 0; lane < 3; lane++) {
            for (int v : values) {
                FeatherShares x = Check.of("plain 0 1;share 0 1 30;");
                x.sheet(1, lane, 4);
                Worlds.layRow(x, 1, 0, 1, 0, v);
                long bits = lane == 0 ? 256 : lane == 1 ? 65536 : 1L << 32;
                long low = (v % bits + bits) % bits;
                boolean is = low >= 1 && low <= 9;
                Check.is("lay " + v + " in lane " + lane, x.read(1, lane, 0, 1), is ? 1 : -20);
                Check.is("feathers", x.share(0, 0), is ? low : 0);
            }
        }
    }

    private static void readNothing() {
        Check.sentence("of n 0: 0, no FAULT, whatever the SHEET is");
        FeatherShares x = Check.of("plain 0 1;share 0 1 9;");
        x.sheet(1, 1, 8);
        Worlds.layRow(x, 1, 0, 1, 0, 1, 9, 9, 9, 9);
        for (int k = 0; k < 4; k++) {
            for (int lane = 0; lane < 3; lane++) {
                for (int f : new int[] {0, 4, 8, -1, MOST, LEAST}) {
                    x.read(0, 0, 0, 1);
                    Check.is("torn() ahead", x.torn(), NULL);
                    Check.is("read(" + k + ", " + lane + ", " + f + ", 0)", x.read(k, lane, f, 0), 0);
                    Check.is("torn() then", x.torn(), 0);
                }
            }
        }
        Check.is("none came", x.share(0, 0), 0);
    }

    private static FeatherShares readable(int lane, int size) {
        FeatherShares x = Check.of("plain 0 1;share 0 1 30;money 0 99;");
        x.sheet(1, lane, size);
        for (int i = 0; i < size; i++) {
            x.lay(1, i, i % 2);
        }
        return x;
    }

    /** Cells 0 1 0 1 ..: from an even one on, 0 buys one of 1; from an odd one on 1 buys none: BAD. */
    private static void readAtTheEndOfASheet() {
        Check.sentence("What the machine refuses: those that were whole ahead came (its FAULT is asked by torn(); of n 0: 0, no FAULT, whatever the SHEET is).");
        for (int size = 0; size <= 40; size++) {
            for (int f = 0; f <= size + 1; f += 2) {
                FeatherShares x = readable(size % 3, size);
                int whole = Math.max(0, (size - f) / 4);
                for (int n : new int[] {1, whole, whole + 1, 10}) {
                    if (n <= 10) {
                        x.keep(0);
                        Check.is("read " + n + " of " + size + " from " + f, x.read(1, size % 3, f, n), Math.min(n, whole));
                        Check.is("torn()", x.torn(), n > whole ? INDEX : 0);
                        Check.is("came", x.share(0, 0), Math.min(n, whole));
                        x.back(0);
                    }
                }
            }
        }
        FeatherShares x = readable(0, 7);
        Check.is("three cells of four", x.read(1, 0, 4, 1), 0);
        Check.is("INDEX", x.torn(), INDEX);
        x = readable(0, 8);
        Check.is("from an odd one on: 1 buys 0 of goose 1", x.read(1, 0, 1, 1), -20);
        Check.is("one behind the last whole one", x.read(1, 0, 5, 1), 0);
        Check.is("INDEX of it", x.torn(), INDEX);
    }

    private static void readFromWrapsNot() {
        Check.sentence("four CELLS each from CELL f on");
        FeatherShares x = readable(2, 40);
        for (int f : new int[] {-1, -2, -3, -4, -40, 37, 38, 39, 40, 41, MOST, MOST - 1, MOST - 3, MOST - 4, MOST - 35, LEAST, LEAST + 4, 0x40000000, -0x40000000}) {
            for (int n : new int[] {1, 2, 10}) {
                Check.is("read " + n + " from " + f, x.read(1, 2, f, n), 0);
                Check.is("INDEX", x.torn(), INDEX);
            }
            Check.is("none from " + f, x.read(1, 2, f, 0), 0);
            Check.is("no fault", x.torn(), 0);
        }
        Check.is("none came", x.share(0, 0), 0);
        Check.is("from 36 on", x.read(1, 2, 36, 1), 1);
        Check.is("no fault from 36 on", x.torn(), 0);
    }

    private static void readOfEachLane() {
        Check.sentence("of a SHEET taken as of a lane");
        for (int lane = 0; lane < 3; lane++) {
            for (int as = 0; as < 3; as++) {
                FeatherShares x = readable(lane, 4);
                Check.is("read as of " + as + " of " + lane, x.read(1, as, 0, 1), as == lane ? 1 : 0);
                Check.is("torn()", x.torn(), as == lane ? 0 : CAST);
                Check.is("came", x.share(0, 0), as == lane ? 1 : 0);
                Check.is("of nothing", x.read(0, as, 0, 1), 0);
                Check.is("NULL", x.torn(), NULL);
                x.sheet(1, lane, 0);
                Check.is("of no cells", x.read(1, as, 0, 1), 0);
                Check.is("INDEX or CAST", x.torn(), as == lane ? INDEX : CAST);
                x.sheet(1, (lane + 1) % 3, 4);
                Check.is("made of another lane", x.read(1, lane, 0, 1), 0);
                Check.is("CAST", x.torn(), CAST);
            }
        }
    }

    private static void readUpToTen() {
        Check.sentence("n (0 to 10) TRADES (who buys, of whom, GOOSE, how many) are read of a SHEET");
        for (int n = -1; n <= 11; n++) {
            FeatherShares x = readable(0, 40);
            Check.is("read " + n, x.read(1, 0, 0, n), n < 0 || n > 10 ? BAD : n);
            Check.is("came", x.share(0, 0), n < 0 || n > 10 ? 0 : n);
            Check.is("money", x.owner(0, 0), n < 0 || n > 10 ? 99 : 99 - n);
            Check.is("torn()", x.torn(), 0);
        }
    }

    private static void readOneBehindAnother() {
        Check.sentence("one behind another as by buy(): how many came.");
        FeatherShares x = Check.of("plain 0 9;share 0 1 9;money 0 81;");
        x.sheet(0, 2, 12);
        Worlds.layRow(x, 0, 0, 1, 0, 9, 1, 0, 0, 9, 0, 1, 0, 9);
        Check.is("to and back and to", x.read(0, 2, 0, 3), 3);
        Check.is("nine", x.share(0, 0), 9);
        Check.is("no money", x.owner(0, 0), 0);
        Check.is("the first can not be then", x.read(0, 2, 0, 1), -20);
        Check.is("the second can", x.read(0, 2, 4, 1), 1);
        x.purse(2, 999);
        x.sheet(0, 2, 8);
        Worlds.layRow(x, 0, 2, 1, 0, 9, 0, 2, 0, 9);
        Check.is("by what the first brought", x.read(0, 2, 0, 2), 2);
        Check.is("his again", x.share(0, 0), 9);
    }

    private static void readIsRefused() {
        Check.sentence("-20 less i (0 on): the i-th, whole, is refused by buy() (in whichever way): then none came; the first met.");
        for (int i = 0; i < 10; i++) {
            FeatherShares x = readable(0, 40);
            x.lay(1, 4 * i + 3, 10);
            String before = Worlds.visible(x);
            Check.is("the " + i + "-th is BAD", x.read(1, 0, 0, 10), -20 - i);
            Check.same("none came", Worlds.visible(x), before);
            Check.is("those ahead alone", x.read(1, 0, 0, i), i);
            x.lay(1, 4 * i + 3, 9);
            x.purse(0, 9 - 1);
            Check.is("the " + i + "-th is STATE", x.read(1, 0, 4 * i, 1), -20);
            x.lay(1, 39, 10);
            Check.is("the first met of two", x.read(1, 0, 4 * i, 10 - i), -20);
        }
    }

    private static void readInWhicheverWay() {
        Check.sentence("is refused by buy() (in whichever way)");
        int[][] refused = {{5, 1, 0, 1}, {-1, 1, 0, 1}, {0, 5, 0, 1}, {0, -1, 0, 1}, {0, 1, 1, 1}, {0, 1, -1, 1}, {0, 1, 0, 0},
            {0, 1, 0, 10}, {0, 1, 0, -1}, {1, 1, 0, 1}, {0, 0, 0, 1}, {0, 2, 0, 2}, {4, 1, 0, 9}, {3, 1, 0, 1}, {0, 4, 0, 1}};
        for (int[] r : refused) {
            FeatherShares x = Check.of("plain 0 9;share 0 1 30;share 0 3 99;share 0 4 9;");
            x.purse(4, r[0] == 4 ? 80 : 998);
            x.purse(3, 99);
            int bought = x.buy(r[0], r[1], r[2], r[3]);
            Check.is("buy() refuses", bought == BAD || bought == STATE ? 1 : 0, 1);
            x.sheet(2, 2, 8);
            Worlds.layRow(x, 2, 2, 1, 0, 1, r[0], r[1], r[2], r[3]);
            Check.is("so does read()", x.read(2, 2, 0, 2), -21);
            Check.is("none came", x.share(0, 2), 0);
            Check.is("torn() is left", x.torn(), 0);
        }
    }

    private static void readWithoutGeese() {
        Check.sentence("the i-th, whole, is refused by buy()");
        FeatherShares x = new FeatherShares();
        x.sheet(0, 0, 6);
        Worlds.layRow(x, 0, 0, 1, 0, 1);
        Check.is("there is no goose 0", x.read(0, 0, 0, 2), -20);
        Check.is("not whole", x.read(0, 0, 3, 2), 0);
        Check.is("INDEX", x.torn(), INDEX);
        Check.is("of n 0", x.read(0, 0, 0, 0), 0);
    }

    /** Rows by a seed, against buy() called for each trade by itself. */
    private static void readLikeBuy() {
        Check.sentence("as by buy()");
        Random random = new Random(44);
        for (int run = 0; run < 3000; run++) {
            FeatherShares x = Check.of("plain 0 1;swan 1 4;share 0 0 9;share 0 1 30;share 1 2 95;share 1 3 9;money 4 99;");
            x.purse(0, 990 + random.nextInt(10));
            int size = random.nextInt(41);
            int f = random.nextInt(5);
            int n = random.nextInt(11);
            int lane = random.nextInt(3);
            int[] cells = new int[40];
            x.sheet(3, lane, size);
            for (int i = 0; i < size; i++) {
                int at = (i - f + 40) % 4;
                cells[i] = random.nextInt(25) == 0 ? random.nextInt(11) - 1 : at < 2 ? random.nextInt(5) : at == 2 ? random.nextInt(2) : 1 + random.nextInt(3);
                x.lay(3, i, cells[i]);
            }
            x.keep(0);
            int due = 0;
            int fault = 0;
            for (int i = 0; i < n && due >= 0 && fault == 0; i++) {
                int first = f + 4 * i;
                if (first + 4 > size) {
                    fault = INDEX;
                } else if (x.buy(cells[first], cells[first + 1], cells[first + 2], cells[first + 3]) < 0) {
                    due = -20 - i;
                    x.back(0);
                } else {
                    due++;
                }
            }
            String then = Worlds.flock(x);
            x.back(0);
            Check.is("read " + n + " from " + f + " of " + size, x.read(3, lane, f, n), due);
            Check.is("torn()", x.torn(), due < 0 ? 0 : fault);
            Check.same("behind it", Worlds.flock(x), then);
        }
    }

    private static void tornStays() {
        Check.sentence("The FAULT of the latest read() that answered 0 or more; 0 (one that is refused leaves it).");
        FeatherShares x = readable(1, 8);
        Check.is("of none", x.torn(), 0);
        x.lay(1, 3, 0);
        int[][] reads = {{0, 0, 0, 1, NULL}, {1, 0, 0, 1, CAST}, {1, 1, 8, 1, INDEX}, {1, 1, 4, 2, INDEX}, {1, 1, 4, 1, 0}};
        for (int[] r : reads) {
            Check.is("read", x.read(r[0], r[1], r[2], r[3]) >= 0 ? 1 : 0, 1);
            Check.is("torn()", x.torn(), r[4]);
            Check.is("refused by buy()", x.read(1, 1, 0, 2), -20);
            Check.is("torn() is left", x.torn(), r[4]);
            Check.is("BAD", x.read(1, 1, 8, 11), BAD);
            Check.is("BAD by its sheet", x.read(4, 1, 0, 1), BAD);
            Check.is("BAD by its lane", x.read(1, 3, 0, 1), BAD);
            Check.is("torn() is left still", x.torn(), r[4]);
            x.lay(0, 0, 0);
            x.lay(1, 99, 0);
            x.sheet(2, 0, -1);
            x.text();
            x.keep(0);
            x.back(0);
            Check.is("no other call has to do with it", x.torn(), r[4]);
            Check.tell(x, "plain 0 1;share 0 1 30;money 0 99;");
        }
    }

    private static void counts() {
        Check.sentence("How many: 0 SEEN, 1 IMAGES, 2 bytes on THE TAPE, 3 CELLS of SHEET 0 (NONE: nothing), 4 all feathers, 5 feathers of THE PLAN. BAD.");
        int[][] due = {{2, 1, 10, 9, -1, 14}, {1, 0, 1, NONE, 50, 1}, {3, 1, 0, NONE, 78, 0}, {6, 2, 160, 40, 1485, 54},
            {0, 0, 0, NONE, 0, 0}, {0, 0, 0, NONE, 0, 0}};
        for (int w = 0; w < 6; w++) {
            FeatherShares x = Worlds.ALL[w].make();
            for (int what = 0; what < 6; what++) {
                if (due[w][what] != -1) {
                    Check.is(Worlds.ALL[w].name() + ": count(" + what + ")", x.count(what), due[w][what]);
                }
            }
            Check.is("count(6)", x.count(6), BAD);
            Check.is("count(-1)", x.count(-1), BAD);
        }
        FeatherShares x = new FeatherShares();
        x.sheet(0, 2, 0);
        Check.is("no cells are not nothing", x.count(3), 0);
        x.sheet(1, 2, 5);
        Check.is("of sheet 0", x.count(3), 0);
        x.keep(1);
        x.keep(1);
        Check.is("one image", x.count(1), 1);
        x.keep(0);
        Check.is("two images", x.count(1), 2);
        x.text();
        Check.is("gone", x.count(1), 0);
        Check.is("the sheet stays", x.count(3), 0);
    }
}
