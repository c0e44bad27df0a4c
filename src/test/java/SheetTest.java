/** Promises 40 to 46: images, sheets and what the machine finds, counts. */
public final class SheetTest {
    private static final int BAD = FeatherShares.BAD, STATE = FeatherShares.STATE, NONE = FeatherShares.NONE;
    private static final int MOST = Integer.MAX_VALUE, LEAST = Integer.MIN_VALUE;
    private static final int NULL = 1, INDEX = 2, CAST = 3;

    public static void main(String[] args) {
        keepAndBack();
        imagesStayApart();
        sheet();
        lay();
        lanes();
        read();
        readFaults();
        readRefused();
        count();
        Check.end("SheetTest");
    }

    private static void keepAndBack() {
        FeatherShares x = Check.of("plain 0 3;share 0 1 30;trade 0 1 0 2;");
        Check.is("back(0)", x.back(0), STATE);
        Check.is("back(1)", x.back(1), STATE);
        Check.is("back(2)", x.back(2), BAD);
        Check.is("back(-1)", x.back(-1), BAD);
        Check.is("keep(2)", x.keep(2), BAD);
        Check.is("keep(-1)", x.keep(-1), BAD);
        x.weeks(2);
        Check.is("keep(1)", x.keep(1), 0);
        Check.is("one image", x.count(1), 1);
        x.weeks(3);
        x.buy(0, 1, 0, 1);
        x.alter(0, 0, 3);
        x.alter(0, 1, 3);
        x.alter(0, 2, 9);
        x.plan(1, 0, 0, 5);
        x.feed(32);
        Check.is("back(1)", x.back(1), 2);
        Check.is("week", x.rule(1), 2);
        Check.is("eggs", x.owner(1, 1), 2);
        Check.is("money", x.owner(0, 0), 20);
        Check.is("share: 30, 27, 24", x.share(0, 1), 24);
        Check.is("kind", x.goose(0, 0), 0);
        Check.is("skin", x.goose(0, 1), 0);
        Check.is("price", x.goose(0, 2), 3);
        Check.is("plan", x.rule(2), 1);
        Check.is("trade", x.trade(0, 3), 2);
        Check.is("the tape is no image's", x.count(2), 1);
        Check.is("image stays", x.back(1), 2);
        Check.is("the other one is none", x.back(0), STATE);
        Check.is("keep(1) again", x.keep(1), 1);
        Check.is("still one", x.count(1), 1);
        Check.is("keep(0)", x.keep(0), 0);
        Check.is("two", x.count(1), 2);
        x.end(0);
        Check.is("a text", x.text(), 0);
        Check.is("images are gone", x.keep(1), 0);
    }

    private static void imagesStayApart() {
        FeatherShares x = Check.of("plain 0 3;share 0 1 30;");
        x.keep(0);
        x.grant(0, 1, 5);
        x.purse(2, 7);
        x.keep(1);
        x.back(0);
        Check.is("share of 0", x.share(0, 1), 30);
        Check.is("money of 0", x.owner(2, 0), 20);
        x.grant(0, 1, 99);
        x.back(1);
        Check.is("share of 1", x.share(0, 1), 5);
        Check.is("money of 1", x.owner(2, 0), 7);
        x.grant(0, 1, 6);
        x.back(1);
        Check.is("image 1 stays", x.share(0, 1), 5);
        x.back(0);
        Check.is("image 0 stays", x.share(0, 1), 30);
    }

    private static void sheet() {
        FeatherShares x = new FeatherShares();
        Check.is("sheet", x.sheet(0, 0, 0), 1);
        Check.is("no cells", x.count(3), 0);
        Check.is("40 cells", x.sheet(0, 2, 40), 1);
        Check.is("40", x.count(3), 40);
        Check.is("41 cells", x.sheet(0, 2, 41), BAD);
        Check.is("-1 cells", x.sheet(0, 2, -1), -14);
        Check.is("LEAST cells", x.sheet(0, 2, LEAST), -14);
        Check.is("it stays", x.count(3), 40);
        Check.is("lane 3", x.sheet(0, 3, 1), BAD);
        Check.is("lane -1", x.sheet(0, -1, 1), BAD);
        Check.is("lane 3, SIZE", x.sheet(0, 3, -1), BAD);
        Check.is("k 4", x.sheet(4, 0, 1), BAD);
        Check.is("k -1", x.sheet(-1, 0, 1), BAD);
        Check.is("k 4, SIZE", x.sheet(4, 0, -1), BAD);
        x.lay(0, 39, 5);
        x.sheet(0, 2, 40);
        FeatherShares y = Check.of("plain 0 1;share 0 1 30;");
        y.sheet(3, 1, 4);
        for (int i = 0; i < 4; i++) {
            y.lay(3, i, 1);
        }
        Check.is("1 of 1 himself", y.read(3, 1, 0, 1), -20);
        y.lay(3, 0, 0);
        y.lay(3, 2, 0);
        Check.is("0 of 1", y.read(3, 1, 0, 1), 1);
        y.sheet(3, 1, 4);
        Check.is("cells are 0 again", y.read(3, 1, 0, 1), -20);
        y.lay(3, 1, 1);
        y.lay(3, 3, 2);
        Check.is("0 buys of goose 0", y.read(3, 1, 0, 1), 1);
        Check.is("two more", y.share(0, 0), 3);
    }

    private static void lay() {
        FeatherShares x = new FeatherShares();
        Check.is("nothing", x.lay(2, 0, 1), -11);
        Check.is("nothing ahead of the place", x.lay(2, -1, 1), -11);
        x.sheet(2, 0, 3);
        Check.is("cell 0", x.lay(2, 0, 1), 1);
        Check.is("cell 2", x.lay(2, 2, 1), 1);
        Check.is("cell 3", x.lay(2, 3, 1), -12);
        Check.is("cell -1", x.lay(2, -1, 1), -12);
        Check.is("cell MOST", x.lay(2, MOST, 1), -12);
        Check.is("cell LEAST", x.lay(2, LEAST, 1), -12);
        Check.is("k 4", x.lay(4, 0, 1), BAD);
        Check.is("k -1", x.lay(-1, 0, 1), BAD);
        x.sheet(2, 0, 0);
        Check.is("no cells", x.lay(2, 0, 1), -12);
    }

    private static void layRow(FeatherShares x, int k, int first, int... row) {
        for (int i = 0; i < row.length; i++) {
            Check.is("lay " + (first + i), x.lay(k, first + i, row[i]), 1);
        }
    }

    private static void lanes() {
        for (int lane = 0; lane < 3; lane++) {
            FeatherShares x = Check.of("plain 0 1;share 0 1 30;");
            x.sheet(0, lane, 4);
            layRow(x, 0, 0, 0x10000, 0x10001, 0, 2);
            Check.is("16 bits above, lane " + lane, x.read(0, lane, 0, 1), lane < 2 ? 1 : -20);
            layRow(x, 0, 0, 0x100, 0x101, 0, 2);
            Check.is("8 bits above, lane " + lane, x.read(0, lane, 0, 1), lane < 1 ? 1 : -20);
            layRow(x, 0, 0, 0, 1, 0, -1);
            Check.is("with a sign, lane " + lane, x.read(0, lane, 0, 1), -20);
            layRow(x, 0, 0, 0, 1, 0, -254);
            Check.is("2 of -254, lane " + lane, x.read(0, lane, 0, 1), lane < 1 ? 1 : -20);
        }
    }

    private static void read() {
        FeatherShares x = Check.of("plain 0 1;share 0 1 30;");
        x.sheet(1, 2, 11);
        layRow(x, 1, 1, 0, 1, 0, 9, 2, 0, 0, 5, 3, 1);
        Check.is("two", x.read(1, 2, 1, 2), 2);
        Check.is("no fault", x.torn(), 0);
        Check.is("who bought, then sold", x.share(0, 0), 4);
        Check.is("his money", x.owner(0, 0), 20 - 9 + 5);
        Check.is("who bought of him", x.share(0, 2), 5);
        x.lay(1, 8, 4);
        Check.is("one and what is no whole one", x.read(1, 2, 5, 10), 1);
        Check.is("INDEX", x.torn(), INDEX);
        Check.is("that which was whole came", x.share(0, 2), 9);
        Check.is("n 11", x.read(1, 2, 1, 11), BAD);
        Check.is("n -1", x.read(1, 2, 1, -1), BAD);
        Check.is("k 4", x.read(4, 2, 1, 1), BAD);
        Check.is("k -1", x.read(-1, 2, 1, 1), BAD);
        Check.is("lane 3", x.read(1, 3, 1, 1), BAD);
        Check.is("lane -1", x.read(1, -1, 1, 1), BAD);
        Check.is("one that is refused leaves torn()", x.torn(), INDEX);

        FeatherShares ten = Check.of("plain 0 1;share 0 1 30;");
        ten.sheet(0, 0, 40);
        for (int i = 0; i < 10; i++) {
            layRow(ten, 0, 4 * i, 0, 1, 0, 1);
        }
        Check.is("ten", ten.read(0, 0, 0, 10), 10);
        Check.is("ten feathers", ten.share(0, 0), 10);
        Check.is("no fault of ten", ten.torn(), 0);
    }

    private static void readFaults() {
        FeatherShares x = Check.of("plain 0 1;share 0 1 30;");
        x.sheet(1, 1, 8);
        layRow(x, 1, 0, 0, 1, 0, 1, 0, 1, 0, 1);
        int[][] torn = {{2, 1, 0, NULL}, {2, 1, -1, NULL}, {1, 0, 0, CAST}, {1, 2, 99, CAST}, {1, 1, -1, INDEX},
            {1, 1, 5, INDEX}, {1, 1, 8, INDEX}, {1, 1, MOST, INDEX}, {1, 1, MOST - 3, INDEX}, {1, 1, LEAST, INDEX},
            {1, 1, -4, INDEX}};
        for (int[] t : torn) {
            Check.is("read of " + t[0] + " as " + t[1] + " from " + t[2], x.read(t[0], t[1], t[2], 10), 0);
            Check.is("its fault", x.torn(), t[3]);
            Check.is("of n 0", x.read(t[0], t[1], t[2], 0), 0);
            Check.is("no fault of n 0", x.torn(), 0);
        }
        Check.is("nothing came", x.share(0, 0), 0);
        Check.is("two, then the end", x.read(1, 1, 0, 3), 2);
        Check.is("INDEX", x.torn(), INDEX);
        Check.is("two came", x.share(0, 0), 2);
        x.sheet(3, 1, 0);
        Check.is("no cells", x.read(3, 1, 0, 1), 0);
        Check.is("INDEX of no cells", x.torn(), INDEX);
    }

    private static void readRefused() {
        FeatherShares x = Check.of("plain 0 3;share 0 1 30;");
        x.sheet(0, 2, 12);
        layRow(x, 0, 0, 0, 1, 0, 5, 0, 1, 0, 2, 9, 9, 9, 9);
        Check.is("STATE of the second", x.read(0, 2, 0, 2), -21);
        Check.is("none came", x.share(0, 0), 0);
        Check.is("no money either", x.owner(0, 0), 20);
        Check.is("torn() stays", x.torn(), 0);
        Check.is("the first met", x.read(0, 2, 0, 3), -21);
        Check.is("one can be", x.read(0, 2, 0, 1), 1);
        Check.is("BAD of the third", x.read(0, 2, 8, 1), -20);
        x.read(3, 0, 0, 1);
        Check.is("torn", x.torn(), NULL);
        Check.is("refused again", x.read(0, 2, 4, 1), -20);
        Check.is("torn() still", x.torn(), NULL);
        Check.is("a FAULT behind a refused one is not met", x.read(0, 2, 8, 2), -20);
        Check.is("a text leaves torn()", Check.tell(x, "swan 0 1;"), 1);
        Check.is("torn() behind it", x.torn(), NULL);
    }

    private static void count() {
        FeatherShares x = Check.of("plain 0 3;swan 1 1;share 0 1 30;share 1 4 99;trade 0 1 0 4;trade 1 0 1 9;");
        x.see(0, 0, 0, 0);
        x.keep(1);
        x.feed(1);
        x.feed(2);
        Check.is("nothing", x.count(3), NONE);
        x.sheet(1, 0, 9);
        Check.is("of sheet 0 alone", x.count(3), NONE);
        x.sheet(0, 0, 3);
        int[] due = {1, 1, 2, 3, 129, 13};
        for (int what = 0; what < 6; what++) {
            Check.is("count(" + what + ")", x.count(what), due[what]);
        }
        for (int i = 3; i <= 6; i++) {
            x.plan(0, 1, 0, 9);
        }
        Check.is("feathers of six", x.count(5), 13 + 36);
        x.cut(1);
        Check.is("feathers of one", x.count(5), 4);
        Check.is("count(6)", x.count(6), BAD);
        Check.is("count(-1)", x.count(-1), BAD);
    }
}
