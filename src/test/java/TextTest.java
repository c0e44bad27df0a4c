/** Promises 1 to 10: a new object, the tape, the text and its faults, what there is. */
public final class TextTest {
    private static final int BAD = FeatherShares.BAD, FULL = FeatherShares.FULL, NONE = FeatherShares.NONE;
    private static final int MOST = Integer.MAX_VALUE, LEAST = Integer.MIN_VALUE;

    public static void main(String[] args) {
        newObject();
        feedAndEnd();
        textOfThePartKept();
        texts();
        textReplacesAll();
        faultOne();
        faultTwo();
        faultThree();
        faultsFourToSix();
        firstFaultCounts();
        faultKeepsWhatWasTold();
        ruleTells();
        gooseTells();
        ownerTells();
        shareTells();
        tradeTells();
        Check.end("TextTest");
    }

    private static void newObject() {
        FeatherShares x = new FeatherShares();
        long[] rules = {0, 0, 0, 100, 0, 0};
        for (int what = 0; what < 6; what++) {
            Check.is("new rule(" + what + ")", x.rule(what), rules[what]);
        }
        long[] counts = {0, 0, 0, NONE, 0, 0};
        for (int what = 0; what < 6; what++) {
            Check.is("new count(" + what + ")", x.count(what), counts[what]);
        }
        for (int k = 0; k < 4; k++) {
            Check.is("new lay", x.lay(k, 0, 0), -11);
        }
        Check.is("new goose", x.goose(0, 0), BAD);
        Check.is("new fault", x.fault(), 0);
        Check.is("new torn", x.torn(), 0);
        for (int o = 0; o < 5; o++) {
            Check.is("new money", x.owner(o, 0), 20);
            Check.is("new worth", x.owner(o, 2), 20);
        }
        Check.is("new back", x.back(0), FeatherShares.STATE);
    }

    private static void feedAndEnd() {
        FeatherShares x = new FeatherShares();
        Check.is("feed(-1)", x.feed(-1), BAD);
        Check.is("feed(128)", x.feed(128), BAD);
        Check.is("feed(LEAST)", x.feed(LEAST), BAD);
        Check.is("feed(0)", x.feed(0), 1);
        Check.is("feed(127)", x.feed(127), 2);
        Check.is("end(3) of 2", x.end(3), BAD);
        Check.is("end(-1)", x.end(-1), BAD);
        Check.is("end(2)", x.end(2), 2);
        Check.is("end(1)", x.end(1), 2);
        Check.is("count behind end", x.count(2), 1);
        Check.is("end(0)", x.end(0), 1);
        Check.is("end(0) again", x.end(0), 0);
        for (int i = 1; i <= 160; i++) {
            Check.is("feed blank", x.feed(32), i);
        }
        Check.is("feed on a full tape", x.feed(32), FULL);
        Check.is("feed BAD on a full tape", x.feed(128), BAD);
        Check.is("count of a full tape", x.count(2), 160);
        Check.is("text of blanks", x.text(), 0);
        Check.is("tape is empty behind text", x.count(2), 0);
        Check.is("feed goes on", x.feed(32), 1);
        Check.is("end(160) of 1", x.end(160), BAD);

        FeatherShares y = new FeatherShares();
        for (char c : "plain 1 2; fox".toCharArray()) {
            y.feed(c);
        }
        Check.is("end keeps the first", y.end(10), 14);
        Check.is("text of the first", y.text(), 1);
        Check.is("goose of the first", y.goose(0, 2), 2);
    }

    private static void keptOf(String text, int n, int answer, int fault) {
        FeatherShares x = new FeatherShares();
        for (char c : text.toCharArray()) {
            x.feed(c);
        }
        x.end(n);
        Check.is("text() of " + n + " of " + text, x.text(), answer);
        Check.is("fault() of " + n + " of " + text, x.fault(), fault);
    }

    private static void textOfThePartKept() {
        keptOf("plainx", 5, -15, 2);
        keptOf("plain 0 123", 10, -18, 3);
        keptOf("plain 0 1;;", 10, 1, 0);
        keptOf("a".repeat(160), 160, -10, 2);
        keptOf("1".repeat(160), 160, -10, 1);
        keptOf(" ".repeat(150) + "plain 0 1;", 160, 1, 0);
        keptOf(" ".repeat(151) + "plain 0 1", 160, -170, 2);
    }

    private static void texts() {
        FeatherShares x = new FeatherShares();
        Check.is("no text", Check.tell(x, ""), 0);
        Check.is("no blanks", Check.tell(x, "plain0 3;moulter4 9;share1 4 99;money2 0;trade4 0 1 9;"), 5);
        Check.is("kind 0", x.goose(0, 0), 0);
        Check.is("kind 1", x.goose(1, 0), 1);
        Check.is("skin 1", x.goose(1, 1), 4);
        Check.is("price 1", x.goose(1, 2), 9);
        Check.is("share", x.share(1, 4), 99);
        Check.is("money", x.owner(2, 0), 0);
        Check.is("trade", x.trade(0, 3), 9);
        Check.is("trade of the last", Check.tell(x, "plain 0 1;plain 0 1;plain 0 1;trade 3 4 2 1;money 4 99;share 2 4 0;"), 6);
        Check.is("of whom", x.trade(0, 1), 4);
        Check.is("all geese", Check.tell(x, "plain0 3;moulter4 9;share1 4 99;money2 0;trade4 0 1 9;"), 5);
        Check.is("many blanks", Check.tell(x, "  swan   01  09  ;   drake 04 1  ;  "), 2);
        Check.is("kind swan", x.goose(0, 0), 2);
        Check.is("skin of two figures", x.goose(0, 1), 1);
        Check.is("price of two figures", x.goose(0, 2), 9);
        Check.is("kind drake", x.goose(1, 0), 3);
        Check.is("goose told behind", Check.tell(x, "share 0 3 7;trade 1 2 0 4;plain 3 1;"), 3);
        Check.is("share told ahead", x.share(0, 3), 7);
        Check.is("trade told ahead", x.trade(0, 1), 2);
        Check.is("share of 0 is told", Check.tell(x, "plain 0 1;share 0 0 0;share 0 0 1;"), -10 - 30);
        Check.is("its fault", x.fault(), 4);
    }

    private static void textReplacesAll() {
        FeatherShares x = Check.of("plain 0 3;swan 1 2;share 0 1 30;money 1 5;trade 0 1 0 2;");
        x.weeks(3);
        x.purse(4, 777);
        x.grant(1, 2, 50);
        x.keep(0);
        x.keep(1);
        x.see(0, 0, 1, 1);
        x.sheet(0, 2, 5);
        Check.is("new text", Check.tell(x, "drake 2 7;"), 1);
        Check.is("geese", x.rule(0), 1);
        Check.is("week", x.rule(1), 0);
        Check.is("plan", x.rule(2), 0);
        Check.is("money", x.rule(3), 100);
        Check.is("eggs", x.rule(4), 0);
        Check.is("feathers", x.count(4), 0);
        Check.is("seen", x.count(0), 0);
        Check.is("images", x.count(1), 0);
        Check.is("back", x.back(0), FeatherShares.STATE);
        Check.is("sheets stay", x.count(3), 5);
        Check.is("an empty text", x.text(), 0);
        Check.is("no geese", x.rule(0), 0);
    }

    private static void refused(String text, int place, int fault) {
        FeatherShares x = Check.of("plain 1 1;");
        Check.is("text() of " + text, Check.tell(x, text), -10 - place);
        Check.is("fault() of " + text, x.fault(), fault);
        Check.is("tape behind " + text, x.count(2), 0);
        Check.is("what was told, behind " + text, x.goose(0, 1), 1);
    }

    private static void faultOne() {
        refused("Plain 0 1;", 0, 1);
        refused(" ,", 1, 1);
        refused("plain 0,1;", 7, 1);
        refused("plain 000 1;", 6, 1);
        refused("plain 0 123456789012;", 8, 1);
        refused("plain 0 1:", 9, 1);
        refused("plain 0 1;\n", 10, 1);
        refused("123", 0, 1);
        refused("plainX 0 1;", 5, 1);
        refused("plain -1 1;", 6, 1);
        refused("plain {", 6, 1);
        refused("plain `", 6, 1);
        refused("plain /", 6, 1);
    }

    private static void faultTwo() {
        refused("fox 1 1;", 0, 2);
        refused("plainplain 1 1;", 0, 2);
        refused("plai 1 1;", 0, 2);
        refused("plainz 1 1;", 0, 2);
        refused("zwan 1 1;", 0, 2);
        refused("plaia 1 1;", 0, 2);
        refused("blain 1 1;", 0, 2);
        refused(";", 0, 2);
        refused("  12", 2, 2);
        refused("plain", 5, 2);
        refused("plain  ", 7, 2);
        refused("plain;", 5, 2);
        refused("plain share", 6, 2);
        refused("plain 1", 7, 2);
        refused("plain 1;", 7, 2);
        refused("plain 1 1", 9, 2);
        refused("plain 1 1 1;", 10, 2);
        refused("plain 1 1 plain", 10, 2);
        refused("plain 1 1;;", 10, 2);
        refused("share 0 0;", 9, 2);
        refused("money 0;", 7, 2);
        refused("trade 0 1 0;", 11, 2);
        refused("trade 0 1 0 9", 13, 2);
    }

    private static void faultThree() {
        refused("plain 5 1;", 6, 3);
        refused("plain 4 0;", 8, 3);
        refused("plain 4 10;", 8, 3);
        refused("share 3 0 1;", 6, 3);
        refused("share 2 5 1;", 8, 3);
        refused("money 5 1;", 6, 3);
        refused("trade 5 1 0 1;", 6, 3);
        refused("trade 0 5 0 1;", 8, 3);
        refused("trade 0 0 0 1;", 8, 3);
        refused("trade 4 04 0 1;", 8, 3);
        refused("trade 0 1 3 1;", 10, 3);
        refused("trade 0 1 2 0;", 12, 3);
        refused("trade 0 1 2 10;", 12, 3);
    }

    private static void faultsFourToSix() {
        refused("plain 0 1;share 0 1 1;share 0 1 2;", 30, 4);
        refused("plain 0 1;share 0 1 1;share 0 01", 30, 4);
        refused("money 3 1;money 4 2;money 3 1;", 26, 4);
        refused("plain 0 1;plain 0 1;plain 0 1;swan 0 1;", 30, 5);
        refused("plain 0 1;plain 0 1;plain 0 1; drake", 31, 5);
        String six = "trade 0 1 0 1;trade 0 1 0 1;trade 0 1 0 1;trade 0 1 0 1;trade 0 1 0 1;trade 0 1 0 1;";
        refused("plain 0 1;" + six + "trade x", 10 + six.length(), 5);
        refused("share 0 0 0;", 12, 6);
        refused("share 0 0 0; ", 13, 6);
        refused("plain 0 1;share 1 0 0;", 22, 6);
        refused("plain 0 1;plain 0 1;share 2 0 1;", 32, 6);
        refused("trade 0 1 0 1;", 14, 6);
        refused("plain 0 1;trade 0 1 1 1;plain 0 1;trade 1 0 2 3;", 48, 6);
        FeatherShares x = new FeatherShares();
        Check.is("six trades", Check.tell(x, "plain 0 1;" + six), 7);
        Check.is("all shares differ", Check.tell(x, "plain 0 1;plain 0 1;share 0 1 1;share 1 1 2;share 0 2 2;"), 5);
    }

    private static void firstFaultCounts() {
        refused("plain 9 ,", 6, 3);
        refused("plain 9", 6, 3);
        refused("share 1 0 1; fox", 13, 2);
        refused("money 0 1;money 0 123;", 16, 4);
        refused("plain 0 1;plain 0 1;plain 0 1;plain ,", 30, 5);
        refused("trade 0 0,", 8, 3);
        refused("fox ,", 0, 2);
    }

    private static void faultKeepsWhatWasTold() {
        FeatherShares x = Check.of("plain 0 3;share 0 1 30;");
        x.weeks(1);
        x.keep(0);
        x.see(0, 1, 0, 27);
        Check.is("a fault", Check.tell(x, "swan 0 1;share 0 1 1;fox"), -31);
        Check.is("fault", x.fault(), 2);
        Check.is("geese stay", x.goose(0, 0), 0);
        Check.is("shares stay", x.share(0, 1), 27);
        Check.is("week stays", x.rule(1), 1);
        Check.is("seen stays", x.count(0), 1);
        Check.is("images stay", x.count(1), 1);
        Check.is("then no fault", Check.tell(x, "swan 0 1;"), 1);
        Check.is("fault of the latest", x.fault(), 0);
    }

    private static void ruleTells() {
        FeatherShares x = Check.of("plain 0 3;swan 1 2;drake 4 1;share 1 1 8;money 0 99;trade 0 1 1 1;trade 1 0 1 2;");
        Check.is("geese", x.rule(0), 3);
        Check.is("week", x.rule(1), 0);
        Check.is("trades", x.rule(2), 2);
        Check.is("money", x.rule(3), 179);
        Check.is("eggs", x.rule(4), 0);
        Check.is("bare", x.rule(5), 0b101);
        x.weeks(2);
        Check.is("week behind 2", x.rule(1), 2);
        Check.is("eggs behind 2", x.rule(4), 2);
        Check.is("rule(6)", x.rule(6), BAD);
        Check.is("rule(-1)", x.rule(-1), BAD);
    }

    private static void gooseTells() {
        FeatherShares x = Check.of("moulter 3 7;plain 2 1;share 0 1 5;share 0 4 5;share 0 2 4;");
        long[] told = {1, 3, 7, 14, 1};
        for (int what = 0; what < 5; what++) {
            Check.is("goose(0, " + what + ")", x.goose(0, what), told[what]);
        }
        Check.is("nobody's", x.goose(1, 4), NONE);
        x.alter(0, 1, 4);
        Check.is("his whose skin it is, if he is one of them", x.goose(0, 4), 4);
        x.alter(0, 1, 2);
        Check.is("else the first's", x.goose(0, 4), 1);
        x.grant(0, 2, 6);
        Check.is("his who has most", x.goose(0, 4), 2);
        Check.is("what 5", x.goose(0, 5), BAD);
        Check.is("what -1", x.goose(0, -1), BAD);
        Check.is("no such goose", x.goose(2, 0), BAD);
        Check.is("goose -1", x.goose(-1, 0), BAD);
        Check.is("goose MOST", x.goose(MOST, 0), BAD);
    }

    private static void ownerTells() {
        FeatherShares x = Check.of("plain 0 3;swan 1 2;drake 4 9;share 0 1 8;share 1 1 3;share 2 1 2;share 2 3 3;money 1 50;");
        Check.is("money", x.owner(1, 0), 50);
        Check.is("eggs", x.owner(1, 1), 0);
        Check.is("worth", x.owner(1, 2), 50 + 24 + 6 + 18);
        Check.is("geese", x.owner(1, 3), 0b011);
        Check.is("geese of 3", x.owner(3, 3), 0b100);
        Check.is("geese of 0", x.owner(0, 3), 0);
        x.weeks(1);
        Check.is("eggs behind 1", x.owner(1, 1), 2);
        Check.is("what 4", x.owner(1, 4), BAD);
        Check.is("what -1", x.owner(1, -1), BAD);
        Check.is("owner 5", x.owner(5, 0), BAD);
        Check.is("owner -1", x.owner(-1, 0), BAD);
    }

    private static void shareTells() {
        FeatherShares x = Check.of("plain 0 3;swan 1 2;share 1 4 77;share 0 0 1;");
        Check.is("share(1, 4)", x.share(1, 4), 77);
        Check.is("share(0, 0)", x.share(0, 0), 1);
        Check.is("share(0, 4)", x.share(0, 4), 0);
        Check.is("no such goose", x.share(2, 0), BAD);
        Check.is("goose -1", x.share(-1, 0), BAD);
        Check.is("owner 5", x.share(0, 5), BAD);
        Check.is("owner -1", x.share(0, -1), BAD);
    }

    private static void tradeTells() {
        FeatherShares x = Check.of("plain 0 3;swan 1 2;trade 4 3 1 9;trade 0 1 0 2;");
        long[][] told = {{4, 3, 1, 9}, {0, 1, 0, 2}};
        for (int i = 0; i < 2; i++) {
            for (int what = 0; what < 4; what++) {
                Check.is("trade(" + i + ", " + what + ")", x.trade(i, what), told[i][what]);
            }
        }
        Check.is("no such trade", x.trade(2, 0), BAD);
        Check.is("trade -1", x.trade(-1, 0), BAD);
        Check.is("what 4", x.trade(0, 4), BAD);
        Check.is("what -1", x.trade(0, -1), BAD);
        x.cut(1);
        Check.is("a trade that was cut", x.trade(1, 0), BAD);
    }
}
