/** The edges of THE TAPE, of TOKENS, of lines and of the FAULTS of a text (promises 1 to 5). */
public final class EdgeTextTest {
    private static final int BAD = FeatherShares.BAD, STATE = FeatherShares.STATE, FULL = FeatherShares.FULL;
    private static final int NONE = FeatherShares.NONE;
    private static final String[] KINDS = {"plain", "moulter", "swan", "drake"};

    public static void main(String[] args) {
        newObject();
        tapeOf160();
        eachByteIsFed();
        endOfTape();
        emptyText();
        linesAreCounted();
        eachByteAsAToken();
        blanks();
        namesOfLines();
        asLongAsMayBe();
        numbersOfOneOrTwoFigures();
        outOfBoundsIsThree();
        boundsOfGeese();
        boundsOfShares();
        boundsOfMoney();
        boundsOfTrades();
        endOfTheText();
        lastPlaceOfAFullTape();
        toldAlready();
        tooMany();
        gooseThatThereIsNot();
        whatNoLineTells();
        byATextThatIsTaken();
        byAFault();
        faultOfTheLatest();
        Check.end("EdgeTextTest");
    }

    private static void newObject() {
        Check.sentence("No GEESE; SHEETS have nothing.");
        FeatherShares x = new FeatherShares();
        Check.is("geese", x.rule(0), 0);
        for (int g = -1; g <= 3; g++) {
            Check.is("goose " + g, x.goose(g, 0), BAD);
        }
        for (int k = 0; k < 4; k++) {
            Check.is("lay of sheet " + k, x.lay(k, 0, 0), -11);
            Check.is("read of sheet " + k, x.read(k, 0, 0, 1), 0);
            Check.is("its fault", x.torn(), 1);
        }
        Check.is("cells of sheet 0", x.count(3), NONE);
        Check.sentence("each with MONEY (0 to 999; 20 at first), EGGS (0 at first), a SHARE of each GOOSE (0 to 99 feathers; 0 at first). WEEK (0 at first).");
        for (int o = 0; o < 5; o++) {
            Check.is("money of " + o, x.owner(o, 0), 20);
            Check.is("eggs of " + o, x.owner(o, 1), 0);
            Check.is("worth of " + o, x.owner(o, 2), 20);
            Check.is("geese of " + o, x.owner(o, 3), 0);
        }
        Check.is("week", x.rule(1), 0);
        Check.is("feathers", x.count(4), 0);
        Check.is("plan", x.rule(2), 0);
        Check.is("seen", x.count(0), 0);
        Check.is("images", x.count(1), 0);
        Check.is("bytes", x.count(2), 0);
    }

    private static void tapeOf160() {
        Check.sentence("A byte (0 to 127) comes behind THE TAPE: how many it has. BAD; FULL: more than 160.");
        FeatherShares x = new FeatherShares();
        for (int i = 1; i <= 160; i++) {
            Check.is("byte " + i, x.feed(i % 128), i);
        }
        Check.is("byte 161", x.feed(0), FULL);
        Check.is("byte 161 again", x.feed(127), FULL);
        Check.is("it has 160", x.count(2), 160);
        Check.is("end(159)", x.end(159), 160);
        Check.is("byte 160 again", x.feed(32), 160);
        Check.is("byte 161 once more", x.feed(32), FULL);
    }

    private static void eachByteIsFed() {
        Check.sentence("A byte (0 to 127)");
        FeatherShares x = new FeatherShares();
        for (int c = -3; c <= 130; c++) {
            boolean isByte = c >= 0 && c <= 127;
            Check.is("feed(" + c + ")", x.feed(c), isByte ? c + 1 : BAD);
        }
        Check.is("it has them", x.count(2), 128);
    }

    private static void endOfTape() {
        Check.sentence("THE TAPE keeps its first n bytes: how many it had. BAD (n above that, too).");
        FeatherShares x = new FeatherShares();
        Check.is("end(0) of none", x.end(0), 0);
        Check.is("end(1) of none", x.end(1), BAD);
        Check.feed(x, "swan 3 7;swan 2 1;");
        Check.is("end(19) of 18", x.end(19), BAD);
        Check.is("end(-1) of 18", x.end(-1), BAD);
        Check.is("it stays", x.count(2), 18);
        Check.is("end(18) of 18", x.end(18), 18);
        Check.is("end(9) of 18", x.end(9), 18);
        Check.is("end(10) of 9", x.end(10), BAD);
        Check.is("the first ones are kept", x.text(), 1);
        Check.is("skin of the first", x.goose(0, 1), 3);
        Check.is("end(1) behind the text", x.end(1), BAD);
        Check.feed(x, "drakeplain 0 1;");
        Check.is("end(5) of 15", x.end(5), 15);
        Check.is("comes behind what was kept", x.feed('0'), 6);
        x.feed('9');
        x.feed(';');
        Check.is("0 and 9 are one number of two figures then, no skin", x.text(), -10 - 5);
        Check.is("its fault", x.fault(), 3);
        FeatherShares y = new FeatherShares();
        Check.feed(y, "x".repeat(160));
        Check.is("end(0) of a full tape", y.end(0), 160);
        Check.is("text of nothing", y.text(), 0);
    }

    private static void emptyText() {
        Check.sentence("THE TAPE (empty then, by a FAULT, too) tells all: how many lines");
        FeatherShares x = new FeatherShares();
        Check.is("text of an empty tape", x.text(), 0);
        Check.is("no fault", x.fault(), 0);
        Check.is("again", x.text(), 0);
        Check.is("text with a fault", Check.tell(x, "fox"), -10);
        Check.is("empty behind it", x.count(2), 0);
        Check.is("text of it", x.text(), 0);
        Check.is("text of a line", Check.tell(x, "plain 0 1;"), 1);
        Check.is("empty behind that", x.count(2), 0);
        Check.is("geese", x.rule(0), 1);
        Check.is("an empty text tells all, too", x.text(), 0);
        Check.is("no geese then", x.rule(0), 0);
    }

    private static void linesAreCounted() {
        Check.sentence("how many lines; -10 less the place of its FAULT");
        String text = "";
        for (int lines = 1; lines <= 15; lines++) {
            text += lines <= 3 ? "swan0 1;" : lines <= 5 ? "money" + lines % 5 + " 1;" : "share" + lines % 3 + " " + (lines - 6) / 3 + " 1;";
            FeatherShares x = new FeatherShares();
            Check.is("lines of " + text, Check.tell(x, text), lines);
        }
        Check.is("one line of blanks around", Check.tell(new FeatherShares(), "   plain   0   1   ;   "), 1);
    }

    /** What one byte more makes of a text, by what kind of a TOKEN it is or belongs to. */
    private static void eachByteAsAToken() {
        Check.sentence("NAMES (a .. z), NUMBERS (1 or 2 figures), the sign ; (every other byte is no TOKEN)");
        for (int c = 0; c < 128; c++) {
            boolean letter = c >= 'a' && c <= 'z';
            boolean figure = c >= '0' && c <= '9';
            byteIs((char) c, "", "", c == ' ' ? 0 : -10, c == ' ' ? 0 : letter || figure || c == ';' ? 2 : 1);
            byteIs((char) c, "plain", " 0 1;", c == ' ' ? 1 : letter ? -10 : figure && c <= '4' ? -17 : -15,
                c == ' ' ? 0 : letter || c == ';' ? 2 : figure ? 3 : 1);
            byteIs((char) c, "plain 0 1", ";", c == ' ' ? 1 : c == ';' ? -20 : figure ? -18 : -19,
                c == ' ' ? 0 : letter || c == ';' ? 2 : figure ? 3 : 1);
            byteIs((char) c, "plain 0 1;", "", c == ' ' ? 1 : -20, c == ' ' ? 0 : letter || figure || c == ';' ? 2 : 1);
            byteIs((char) c, "pla", "in 0 1;", -10, 2);
        }
    }

    private static void byteIs(char c, String ahead, String behind, int answer, int fault) {
        FeatherShares x = new FeatherShares();
        String told = ahead + "(" + (int) c + ")" + behind;
        Check.is("text() of " + told, Check.tell(x, ahead + c + behind), answer);
        Check.is("fault() of " + told, x.fault(), fault);
    }

    private static void blanks() {
        Check.sentence("any number of blanks (32) ahead of, between, behind them (one at least between two NAMES, between two NUMBERS; else none is needed)");
        String[] taken = {"plain 0 1;", "plain0 1;", "plain 0 1 ;", " plain 0 1;", "plain 0 1; ", "  plain  0  1  ;  ",
            " ".repeat(151) + "plain0 1;", "plain" + " ".repeat(75) + "0" + " ".repeat(75) + "1;"};
        for (String text : taken) {
            FeatherShares x = new FeatherShares();
            Check.is("lines of " + text, Check.tell(x, text), 1);
            Check.is("price", x.goose(0, 2), 1);
        }
        FeatherShares x = new FeatherShares();
        Check.is("none is needed", Check.tell(x, "plain0 1;swan1 2;share0 3 44;money2 9;trade4 3 1 9;"), 5);
        Check.is("share", x.share(0, 3), 44);
        Check.is("trade", x.trade(0, 3), 9);
        faultIs("plain 01;", 8, 2);
        faultIs("plain 0011;", 6, 1);
        faultIs("plain0 1;swandrake 1 1;", 9, 2);
        faultIs("plain 0\t1;", 7, 1);
        faultIs("plain 0 1;\n", 10, 1);
    }

    private static void faultIs(String text, int place, int fault) {
        FeatherShares x = Check.of("drake 3 8;share 0 4 12;");
        Check.is("text() of " + text, Check.tell(x, text), -10 - place);
        Check.is("fault() of " + text, x.fault(), fault);
        Check.is("what was told stays by " + text, x.goose(0, 2) * 100 + x.share(0, 4), 812);
        Check.is("the tape is empty by " + text, x.count(2), 0);
    }

    private static void namesOfLines() {
        Check.sentence("2 a TOKEN that can not stand there (a NAME that begins no line; or the end: the length)");
        String[] names = {"plain", "moulter", "swan", "drake", "share", "money", "trade"};
        for (String name : names) {
            for (int n = 1; n < name.length(); n++) {
                faultIs(name.substring(0, n) + " 0 1;", 0, 2);
                faultIs(name.substring(n) + " 0 1;", 0, 2);
            }
            faultIs(name + name.charAt(0) + " 0 1;", 0, 2);
            faultIs("a" + name + " 0 1;", 0, 2);
            faultIs(name + name + " 0 1;", 0, 2);
            for (int i = 0; i < name.length(); i++) {
                char other = name.charAt(i) == 'z' ? 'a' : (char) (name.charAt(i) + 1);
                faultIs(name.substring(0, i) + other + name.substring(i + 1) + " 0 1;", 0, 2);
            }
            for (String second : names) {
                faultIs(name + " " + second, name.length() + 1, 2);
            }
            faultIs(name + ";", name.length(), 2);
            faultIs(name.substring(0, 1).toUpperCase() + name.substring(1) + " 0 1;", 0, 1);
        }
        faultIs("goose 0 1;", 0, 2);
        faultIs("0 1;", 0, 2);
        faultIs(";", 0, 2);
        faultIs("plain 0 1;;", 10, 2);
        faultIs("plain 0 1;7", 10, 2);
        faultIs("plain 0 1 2;", 10, 2);
        faultIs("plain 0;", 7, 2);
        faultIs("plain 0 x;", 8, 2);
        faultIs("plain 0 1 x;", 10, 2);
        faultIs("share 0 0 1 1;", 12, 2);
        faultIs("money 0 1 1;", 10, 2);
        faultIs("trade 0 1 0 1 1;", 14, 2);
        faultIs("trade 0 1 0;", 11, 2);
        faultIs("share 0 0;", 9, 2);
        faultIs("money 0;", 7, 2);
    }

    private static void asLongAsMayBe() {
        Check.sentence("TOKENS, each as long as may be");
        faultIs("plainswan 0 1;", 0, 2);
        faultIs("plain 0 1;moneymoney 0 1;", 10, 2);
        faultIs("plain 11;", 6, 3);
        faultIs("plain 041;", 6, 1);
        faultIs("plain 0 110;", 8, 1);
        faultIs("share 0 1 2 3;", 12, 2);
        faultIs("share 0 012;", 8, 1);
        faultIs("share 0 12;", 8, 3);
        Check.is("a number ends where a name begins", Check.tell(new FeatherShares(), "plain0 1;swan0 1;"), 2);
        faultIs("plain 0 1swan 0 1;", 9, 2);
    }

    private static void numbersOfOneOrTwoFigures() {
        Check.sentence("1 no TOKEN, a NUMBER that is too long (its first byte).");
        for (int figures = 1; figures <= 150; figures++) {
            FeatherShares x = new FeatherShares();
            String text = "plain " + "0".repeat(figures - 1) + "1 9;";
            Check.is("text() of " + text, Check.tell(x, text), figures <= 2 ? 1 : -16);
            Check.is("fault() of " + text, x.fault(), figures <= 2 ? 0 : 1);
        }
        faultIs("plain 4294967297 1;", 6, 1);
        faultIs("plain 18446744073709551617 1;", 6, 1);
        faultIs("plain 1 001;", 8, 1);
        faultIs("100", 0, 1);
        faultIs("  100", 2, 1);
        faultIs("plain 100", 6, 1);
        faultIs("plain 1 1 100", 10, 1);
        faultIs("plain 1 1;100", 10, 1);
        FeatherShares x = new FeatherShares();
        Check.is("two figures", Check.tell(x, "plain 04 09;share 00 00 00;money 04 99;trade 04 00 00 09;"), 4);
        Check.is("skin 04", x.goose(0, 1), 4);
        Check.is("price 09", x.goose(0, 2), 9);
        Check.is("money 99", x.owner(4, 0), 99);
        Check.is("how many 09", x.trade(0, 3), 9);
    }

    /** A text around one number (%), with all numbers of one or two figures: taken between its bounds, else 3 at it. */
    private static void numberIs(String ahead, String behind, int least, int most, int but, int lines) {
        for (int v = 0; v <= 99; v++) {
            for (int form = v < 10 ? 0 : 1; form < 2; form++) {
                String number = form == 0 ? "" + v : v < 10 ? "0" + v : "" + v;
                FeatherShares x = new FeatherShares();
                boolean within = v >= least && v <= most && v != but;
                String text = ahead + number + behind;
                Check.is("text() of " + text, Check.tell(x, text), within ? lines : -10 - ahead.length());
                Check.is("fault() of " + text, x.fault(), within ? 0 : 3);
            }
        }
    }

    private static void outOfBoundsIsThree() {
        Check.sentence("3 a NUMBER out of its bounds (trade: of whom alike with who buys).");
        for (int o = 0; o < 5; o++) {
            faultIs("trade " + o + " " + o + " 0 1;", 8, 3);
            faultIs("trade " + o + " 0" + o + " 0 1;", 8, 3);
            faultIs("trade 0" + o + "  " + o, 10, 3);
        }
        faultIs("trade 5 5 0 1;", 6, 3);
        faultIs("trade 4 5 0 1;", 8, 3);
        faultIs("trade 0 1 0 1;trade 1 0 0 1;trade 1 1 0 1;", 36, 3);
        faultIs("plain 99 99;", 6, 3);
        faultIs("plain 04 00;", 9, 3);
        faultIs("plain 0 1;share 00 05 00;", 19, 3);
    }

    private static void boundsOfGeese() {
        Check.sentence("K: a GOOSE more of that KIND: SKIN, PRICE.");
        for (int kind = 0; kind < 4; kind++) {
            FeatherShares x = Check.of(KINDS[kind] + " 4 9;");
            Check.is("kind of " + KINDS[kind], x.goose(0, 0), kind);
            Check.is("skin", x.goose(0, 1), 4);
            Check.is("price", x.goose(0, 2), 9);
            numberIs(KINDS[kind] + " ", " 1;", 0, 4, NONE, 1);
            numberIs(KINDS[kind] + " 4 ", ";", 1, 9, NONE, 1);
        }
        Check.sentence("What is numbered has its numbers from 0 on, as it comes");
        FeatherShares x = Check.of("drake 0 1;money 0 1;plain 1 2;share 2 0 1;swan 2 3;");
        Check.is("kinds as they come", x.goose(0, 0) * 100 + x.goose(1, 0) * 10 + x.goose(2, 0), 302);
        Check.is("prices as they come", x.goose(0, 2) * 100 + x.goose(1, 2) * 10 + x.goose(2, 2), 123);
    }

    private static void boundsOfShares() {
        Check.sentence("share: a GOOSE (0 to 2), an OWNER, his SHARE.");
        String geese = "plain 0 1;plain 0 1;plain 0 1;";
        numberIs(geese + "share ", " 4 99;", 0, 2, NONE, 4);
        numberIs(geese + "share 2 ", " 0;", 0, 4, NONE, 4);
        numberIs(geese + "share 0 0 ", ";", 0, 99, NONE, 4);
        FeatherShares x = Check.of(geese + "share 2 4 99;share 0 1 0;");
        Check.is("share(2, 4)", x.share(2, 4), 99);
        Check.is("all feathers", x.count(4), 99);
    }

    private static void boundsOfMoney() {
        Check.sentence("money: an OWNER, his MONEY (0 to 99).");
        numberIs("money ", " 1;", 0, 4, NONE, 1);
        numberIs("money 4 ", ";", 0, 99, NONE, 1);
        faultIs("money 4 100;", 8, 1);
        FeatherShares x = Check.of("money 4 99;money 0 0;");
        Check.is("money of 4", x.owner(4, 0), 99);
        Check.is("money of 0", x.owner(0, 0), 0);
        Check.is("money of 1", x.owner(1, 0), 20);
    }

    private static void boundsOfTrades() {
        Check.sentence("trade: a TRADE more in THE PLAN: who buys (0 to 4), of whom (0 to 4, another one), of which GOOSE (0 to 2), how many.");
        String geese = "plain 0 1;plain 0 1;plain 0 1;";
        for (int other = 0; other < 5; other++) {
            numberIs(geese + "trade " + other + " ", " 0 1;", 0, 4, other, 4);
        }
        for (int v = 0; v <= 99; v++) {
            FeatherShares x = new FeatherShares();
            String text = geese + "trade " + v + " 4 2 9;";
            Check.is("text() of " + text, Check.tell(x, text), v < 4 ? 4 : v == 4 ? -10 - 38 : -10 - 36);
            Check.is("fault() of " + text, x.fault(), v < 4 ? 0 : 3);
        }
        numberIs(geese + "trade 0 4 ", " 9;", 0, 2, NONE, 4);
        numberIs(geese + "trade 0 4 2 ", ";", 1, 9, NONE, 4);
        FeatherShares x = Check.of(geese + "trade 4 0 2 9;trade 0 4 0 1;");
        Check.is("first", x.trade(0, 0) * 1000 + x.trade(0, 1) * 100 + x.trade(0, 2) * 10 + x.trade(0, 3), 4029);
        Check.is("second", x.trade(1, 0) * 1000 + x.trade(1, 1) * 100 + x.trade(1, 2) * 10 + x.trade(1, 3), 401);
    }

    /** Each part of a line, cut behind each of its tokens: the end can not stand there. */
    private static void endOfTheText() {
        Check.sentence("or the end: the length");
        String[][] lines = {{"plain", " 0", " 1"}, {"moulter", " 0", " 1"}, {"swan", " 0", " 1"}, {"drake", " 0", " 1"},
            {"share", " 0", " 0", " 1"}, {"money", " 0", " 1"}, {"trade", " 0", " 1", " 0", " 1"}};
        for (String[] line : lines) {
            String text = "swan 0 1;";
            for (String token : line) {
                text += token;
                faultIs(text, text.length(), 2);
                faultIs(text + "   ", text.length() + 3, 2);
            }
            Check.is("the whole line", Check.tell(new FeatherShares(), text + ";"), 2);
        }
    }

    private static void lastPlaceOfAFullTape() {
        Check.sentence("-10 less the place of its FAULT: that which was told stays.");
        faultIs(" ".repeat(150) + "plain 0 1,", 159, 1);
        faultIs(" ".repeat(151) + "plain 0 1", 160, 2);
        faultIs(" ".repeat(159) + "x", 159, 2);
        faultIs("plain 0 1" + " ".repeat(151), 160, 2);
        faultIs("share 0 0 1;" + " ".repeat(148), 160, 6);
        Check.is("a full tape that is taken", Check.tell(new FeatherShares(), " ".repeat(150) + "plain 0 1;"), 1);
        Check.is("a full tape of blanks", Check.tell(new FeatherShares(), " ".repeat(160)), 0);
        FeatherShares x = new FeatherShares();
        Check.feed(x, " ".repeat(150) + "plain 0 1;");
        Check.is("a byte more", x.feed('x'), FULL);
        Check.is("it is as if it had not come", x.text(), 1);
    }

    private static void toldAlready() {
        Check.sentence("4 an OWNER whose SHARE of this GOOSE, whose MONEY is told already (it).");
        String geese = "plain 0 1;plain 0 1;plain 0 1;";
        for (int g = 0; g < 3; g++) {
            for (int o = 0; o < 5; o++) {
                String first = geese + "share " + g + " " + o + " 7;";
                for (int g2 = 0; g2 < 3; g2++) {
                    for (int o2 = 0; o2 < 5; o2++) {
                        boolean told = g == g2 && o == o2;
                        FeatherShares x = new FeatherShares();
                        int answer = Check.tell(x, first + "share " + g2 + " " + o2 + " 7;");
                        Check.is("share " + g + o + " then " + g2 + o2, answer, told ? -10 - first.length() - 8 : 5);
                        Check.is("fault()", x.fault(), told ? 4 : 0);
                    }
                }
            }
        }
        for (int o = 0; o < 5; o++) {
            for (int o2 = 0; o2 < 5; o2++) {
                FeatherShares x = new FeatherShares();
                int answer = Check.tell(x, "money " + o + " 20;plain 0 1;share 0 " + o + " 3;money " + o2 + " 20;");
                Check.is("money " + o + " then " + o2, answer, o == o2 ? -10 - 39 : 4);
                Check.is("fault()", x.fault(), o == o2 ? 4 : 0);
            }
        }
        faultIs("plain 0 1;share 0 0 0;share 0 0 0;", 30, 4);
        faultIs("share 2 0 1;share 2 0 1;", 20, 4);
        faultIs("share 0 3 1;share 0 03 1;", 20, 4);
        faultIs("money 3 1;money  03", 17, 4);
    }

    private static void tooMany() {
        Check.sentence("5 the 4th GOOSE, the 7th trade (its NAME).");
        String three = "plain 0 1;swan 0 1;drake 0 1;";
        Check.is("three geese", Check.tell(new FeatherShares(), three), 3);
        for (String kind : KINDS) {
            faultIs(three + kind + " 0 1;", three.length(), 5);
            faultIs(three + "  " + kind, three.length() + 2, 5);
            faultIs(three + kind + " 9 99;", three.length(), 5);
            faultIs(three + kind + kind + " 0 1;", three.length(), 2);
        }
        String six = "plain0 1;" + "trade0 1 0 1;".repeat(6);
        FeatherShares x = new FeatherShares();
        Check.is("six trades", Check.tell(x, six), 7);
        Check.is("plan of six", x.rule(2), 6);
        faultIs(six + "trade 0 1 0 1;", six.length(), 5);
        faultIs(six + " trade", six.length() + 1, 5);
        faultIs(six + "trade 9", six.length(), 5);
        faultIs(six + "tradex", six.length(), 2);
        Check.is("geese behind six trades", Check.tell(x, six + "swan0 1;swan0 1;"), 9);
        faultIs("trade0 1 0 1;".repeat(7), 78, 5);
    }

    private static void gooseThatThereIsNot() {
        Check.sentence("Behind all (the length): 6 a GOOSE that there is not.");
        String geese = "";
        for (int there = 0; there <= 3; there++) {
            for (int g = 0; g < 3; g++) {
                for (String line : new String[] {"share " + g + " 4 0;", "trade 3 4 " + g + " 9;"}) {
                    for (String text : new String[] {geese + line, line + geese, geese + line + "money 0 1; "}) {
                        if (g >= there) {
                            faultIs(text, text.length(), 6);
                        } else {
                            Check.is("fault() of " + text, Check.of(text).fault(), 0);
                        }
                    }
                }
            }
            geese += "swan 1 1;";
        }
        faultIs("share 1 0 1;share 2 0 1;plain 0 1;plain 0 1;", 44, 6);
        Check.is("told ahead of its goose", Check.tell(new FeatherShares(), "share 2 0 1;trade 0 1 1 1;swan0 1;swan0 1;swan0 1;"), 5);
    }

    private static void whatNoLineTells() {
        Check.sentence("A text that is taken tells all, in place of what there was (what no line tells is as at first)");
        FeatherShares x = Worlds.ALL[0].make();
        x.end(0);
        Check.is("text()", Check.tell(x, "swan 4 9;moulter 0 1;share 1 3 5;money 2 77;"), 4);
        Check.same("all", Worlds.flock(x), "2 geese, week 0, plan 0/0/0 g0 2 4 9 0 0 0 0 0 g1 1 0 1 0 0 0 5 0"
            + " o0 20 0 o1 20 0 o2 77 0 o3 20 0 o4 20 0");
        FeatherShares y = Worlds.ALL[3].make();
        y.end(0);
        Check.is("text() of nothing", y.text(), 0);
        Check.same("all", Worlds.flock(y), "0 geese, week 0, plan 0/0/0 o0 20 0 o1 20 0 o2 20 0 o3 20 0 o4 20 0");
        Check.is("all feathers", y.count(4), 0);
        Check.is("a goose behind it", Check.tell(y, "plain 0 1;"), 1);
        Check.is("has no feathers of the old one", y.goose(0, 3), 0);
    }

    private static void byATextThatIsTaken() {
        Check.sentence("nothing is SEEN; IMAGES are gone; SHEETS stay.");
        FeatherShares x = Worlds.ALL[3].make();
        x.read(2, 0, 0, 1);
        Check.is("torn() ahead", x.torn(), 3);
        x.end(0);
        Check.is("text()", Check.tell(x, "swan 0 1;share 0 1 20;"), 2);
        Check.is("seen", x.count(0), 0);
        Check.is("forget(1)", x.forget(1), BAD);
        Check.is("kinds", x.kinds(0), 15);
        Check.is("skins", x.skins(0), 31);
        Check.is("images", x.count(1), 0);
        Check.is("back(0)", x.back(0), STATE);
        Check.is("back(1)", x.back(1), STATE);
        Check.is("keep(0)", x.keep(0), 0);
        Check.is("cells of sheet 0", x.count(3), 40);
        Check.is("torn() stays", x.torn(), 3);
        Check.is("sheet 3 stays", x.lay(3, 39, 1), 1);
        Check.is("its cells stay: 0 buys of 1 nine", x.read(3, 0, 0, 1), 1);
        Check.is("nine", x.share(0, 0), 9);
    }

    private static void byAFault() {
        Check.sentence("-10 less the place of its FAULT: that which was told stays.");
        String[] faults = {"#", "swan 1 1;x", "swan 1 1;plain 5", "money 1 1;money 1", "swan0 1;swan0 1;swan0 1;swan", "share 2 1 1;"};
        for (int fault = 1; fault <= 6; fault++) {
            for (Worlds.World world : Worlds.ALL) {
                FeatherShares x = world.make();
                FeatherShares twin = world.make();
                x.end(0);
                twin.end(0);
                Check.is("text() of " + faults[fault - 1] + " is refused", Check.tell(x, faults[fault - 1]) <= -10 ? 1 : 0, 1);
                Check.is("fault()", x.fault(), fault);
                Check.tell(twin, "?");
                Check.same(world.name() + " behind fault " + fault, Worlds.all(x).replace(" f" + fault, " f1"), Worlds.all(twin));
                Check.is("images of its own stay", world.make().count(1), countOfImages(world, faults[fault - 1]));
            }
        }
    }

    private static int countOfImages(Worlds.World world, String text) {
        FeatherShares x = world.make();
        x.end(0);
        Check.tell(x, text);
        return x.count(1);
    }

    private static void faultOfTheLatest() {
        Check.sentence("The FAULT of the latest text(); 0.");
        FeatherShares x = new FeatherShares();
        Check.is("of none", x.fault(), 0);
        String[] faults = {"#", "x", "plain 5", "money 1 1;money 1", "swan0 1;swan0 1;swan0 1;swan", "share 2 1 1;"};
        for (int fault = 1; fault <= 6; fault++) {
            Check.tell(x, faults[fault - 1]);
            Check.is("fault()", x.fault(), fault);
            Check.is("asked again", x.fault(), fault);
        }
        x.feed('p');
        x.end(0);
        x.keep(0);
        x.back(0);
        Check.is("other calls leave it", x.fault(), 6);
        Check.is("a text that is taken", Check.tell(x, "swan 0 1;"), 1);
        Check.is("0 then", x.fault(), 0);
        Check.tell(x, "?");
        Check.is("1 then", x.fault(), 1);
        x.text();
        Check.is("0 by an empty text", x.fault(), 0);
    }
}
