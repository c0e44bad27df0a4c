/** The edges of what there is and of what is changed (promises 6 to 15), of GEESE, THE EGG and WORTH. */
public final class EdgeStateTest {
    private static final int BAD = FeatherShares.BAD, FULL = FeatherShares.FULL, NONE = FeatherShares.NONE;

    public static void main(String[] args) {
        rules();
        geeseWithoutFeathers();
        mostOfAll();
        eachGooseTellsItsOwn();
        eggOfEachTie();
        geeseOfAnOwner();
        worth();
        shares();
        tradesOfThePlan();
        alterTellsWhatItWas();
        alterBounds();
        purse();
        grant();
        grantOfOneGooseAlone();
        plan();
        planIsFull();
        cut();
        withoutGeese();
        Check.end("EdgeStateTest");
    }

    private static void rules() {
        Check.sentence("0 GEESE, 1 WEEK, 2 TRADES of THE PLAN, 3 all MONEY, 4 all EGGS, 5 GEESE without feathers (bits). BAD.");
        FeatherShares x = new FeatherShares();
        int[] first = {0, 0, 0, 100, 0, 0};
        for (int what = 0; what < 6; what++) {
            Check.is("rule(" + what + ") of a new object", x.rule(what), first[what]);
        }
        Check.is("rule(6)", x.rule(6), BAD);
        Check.is("rule(-1)", x.rule(-1), BAD);
        FeatherShares full = Worlds.ALL[3].make();
        int[] most = {3, 999, 6, 5 * 999, 0, 0};
        for (int what = 0; what < 6; what++) {
            Check.is("rule(" + what + ") of a full object", full.rule(what), most[what]);
        }
        FeatherShares eggs = Check.of("plain 0 1;plain 0 1;plain 0 1;share 0 0 1;share 1 4 1;share 2 4 1;");
        for (int n = 0; n < 33; n++) {
            eggs.weeks(30);
        }
        eggs.weeks(9);
        Check.is("all eggs of 999 weeks", eggs.rule(4), 3 * 999);
        Check.is("week 999", eggs.rule(1), 999);
        Check.is("eggs of 4", eggs.owner(4, 1), 2 * 999);
    }

    private static void geeseWithoutFeathers() {
        Check.sentence("5 GEESE without feathers (bits)");
        String text = "";
        for (int geese = 0; geese <= 3; geese++) {
            for (int bare = 0; bare < 1 << geese; bare++) {
                FeatherShares x = Check.of(text);
                for (int g = 0; g < geese; g++) {
                    x.grant(g, 4 - g, (bare >> g & 1) == 1 ? 0 : 1);
                }
                Check.is("bare of " + geese, x.rule(5), bare);
            }
            text += "plain 0 1;";
        }
    }

    private static void mostOfAll() {
        Check.sentence("3 all its feathers");
        FeatherShares x = Worlds.ALL[3].make();
        for (int g = 0; g < 3; g++) {
            Check.is("all feathers of " + g, x.goose(g, 3), 495);
        }
        Check.is("all feathers", x.count(4), 3 * 495);
        x.grant(1, 4, 0);
        Check.is("99 less", x.goose(1, 3), 396);
        Check.is("of another one not", x.goose(2, 3), 495);
        Check.is("of none", Worlds.ALL[4].make().goose(0, 3), 0);
    }

    private static void eachGooseTellsItsOwn() {
        Check.sentence("Of a GOOSE: 0 KIND, 1 SKIN, 2 PRICE, 3 all its feathers, 4 whose THE EGG is now (NONE: nobody's). BAD.");
        FeatherShares x = Check.of("drake 4 9;plain 0 1;swan 3 5;share 0 4 99;share 2 1 7;");
        int[][] due = {{3, 4, 9, 99, 4}, {0, 0, 1, 0, NONE}, {2, 3, 5, 7, 1}};
        for (int g = 0; g < 3; g++) {
            for (int what = 0; what < 5; what++) {
                Check.is("goose(" + g + ", " + what + ")", x.goose(g, what), due[g][what]);
            }
            Check.is("goose(" + g + ", -1)", x.goose(g, -1), BAD);
            Check.is("goose(" + g + ", 5)", x.goose(g, 5), BAD);
        }
        Check.is("goose(3, 0)", x.goose(3, 0), BAD);
        Check.is("goose(-1, 0)", x.goose(-1, 0), BAD);
    }

    /** All ways in which the five may have 0, 1 or 2 feathers, by each skin. */
    private static void eggOfEachTie() {
        Check.sentence("his, whose SHARE is most; of several his whose SKIN it is, if he is one of them, else the first's; nobody's, if there are no feathers.");
        for (int way = 0; way < 243; way++) {
            FeatherShares x = Check.of("plain 0 1;");
            int rest = way;
            int most = 0;
            for (int o = 0; o < 5; o++) {
                x.grant(0, o, rest % 3);
                most = Math.max(most, rest % 3);
                rest /= 3;
            }
            for (int skin = 0; skin < 5; skin++) {
                x.alter(0, 1, skin);
                int due = NONE;
                for (int o = 4; o >= 0; o--) {
                    boolean isOne = most > 0 && x.share(0, o) == most;
                    due = isOne && due != skin ? o : due;
                }
                if (most > 0 && x.share(0, skin) == most) {
                    due = skin;
                }
                Check.is("egg of way " + way + " by skin " + skin, x.goose(0, 4), due);
                x.weeks(0);
            }
        }
        FeatherShares x = Check.of("plain 4 1;share 0 1 50;share 0 3 50;share 0 4 49;");
        Check.is("the first's", x.goose(0, 4), 1);
        x.grant(0, 4, 50);
        Check.is("his whose skin it is", x.goose(0, 4), 4);
        x.grant(0, 3, 51);
        Check.is("his who has one more", x.goose(0, 4), 3);
        x.grant(0, 0, 51);
        Check.is("the first's of them", x.goose(0, 4), 0);
    }

    private static void geeseOfAnOwner() {
        Check.sentence("Of an OWNER: 0 MONEY, 1 EGGS, 2 WORTH, 3 GEESE of which THE EGG is his now (bits). BAD.");
        for (int geese = 0; geese < 8; geese++) {
            FeatherShares x = Check.of("plain 0 1;plain 0 1;plain 0 1;share 0 0 5;share 1 0 5;share 2 0 5;");
            for (int g = 0; g < 3; g++) {
                x.grant(g, 4, (geese >> g & 1) == 1 ? 6 : 5);
            }
            Check.is("geese of 4", x.owner(4, 3), geese);
            Check.is("geese of 0", x.owner(0, 3), 7 - geese);
            Check.is("geese of 2", x.owner(2, 3), 0);
        }
        FeatherShares bare = Worlds.ALL[4].make();
        for (int o = 0; o < 5; o++) {
            Check.is("geese of " + o + ", nobody's", bare.owner(o, 3), 0);
            for (int what : new int[] {-1, 4, 5}) {
                Check.is("owner(" + o + ", " + what + ")", bare.owner(o, what), BAD);
            }
        }
        FeatherShares x = Check.of("plain 0 2;plain 0 9;share 0 3 5;share 1 3 1;money 3 7;");
        x.weeks(3);
        int[] due = {7, 6, 7 + 10 + 9, 3};
        for (int what = 0; what < 4; what++) {
            Check.is("owner(3, " + what + ")", x.owner(3, what), due[what]);
        }
        Check.is("owner(5, 0)", x.owner(5, 0), BAD);
        Check.is("owner(-1, 0)", x.owner(-1, 0), BAD);
    }

    private static void worth() {
        Check.sentence("WORTH of an OWNER: his MONEY, and of each GOOSE his SHARE times its PRICE.");
        FeatherShares full = Worlds.ALL[3].make();
        Check.is("most worth", full.owner(4, 2), 999 + 3 * 99 * 9);
        FeatherShares poor = Worlds.ALL[4].make();
        Check.is("least worth", poor.owner(4, 2), 0);
        poor.grant(2, 4, 1);
        Check.is("a feather", poor.owner(4, 2), 1);
        poor.alter(2, 2, 9);
        Check.is("its price then", poor.owner(4, 2), 9);
        poor.purse(4, 3);
        Check.is("and money", poor.owner(4, 2), 12);
        Check.is("of another one", poor.owner(3, 2), 0);
    }

    private static void shares() {
        Check.sentence("SHARE of an OWNER of a GOOSE. BAD.");
        FeatherShares x = Check.of("plain 0 1;plain 0 1;plain 0 1;");
        for (int g = 0; g < 3; g++) {
            for (int o = 0; o < 5; o++) {
                x.grant(g, o, 20 * g + o);
            }
        }
        for (int g = -1; g <= 3; g++) {
            for (int o = -1; o <= 5; o++) {
                boolean is = g >= 0 && g < 3 && o >= 0 && o < 5;
                Check.is("share(" + g + ", " + o + ")", x.share(g, o), is ? 20 * g + o : BAD);
            }
        }
    }

    private static void tradesOfThePlan() {
        Check.sentence("Of a TRADE of THE PLAN: 0 who buys, 1 of whom, 2 of which GOOSE, 3 how many. BAD.");
        FeatherShares x = Check.of("plain 0 1;plain 0 1;plain 0 1;");
        Check.is("trade(0, 0) of none", x.trade(0, 0), BAD);
        for (int count = 1; count <= 6; count++) {
            x.plan(count % 5, (count + 2) % 5, count % 3, count + 3);
            for (int i = -1; i <= 6; i++) {
                boolean is = i >= 0 && i < count;
                Check.is("who buys", x.trade(i, 0), is ? (i + 1) % 5 : BAD);
                Check.is("of whom", x.trade(i, 1), is ? (i + 3) % 5 : BAD);
                Check.is("of which goose", x.trade(i, 2), is ? (i + 1) % 3 : BAD);
                Check.is("how many", x.trade(i, 3), is ? i + 4 : BAD);
                Check.is("what 4", x.trade(i, 4), BAD);
                Check.is("what -1", x.trade(i, -1), BAD);
            }
        }
        x.cut(2);
        Check.is("the second", x.trade(1, 3), 5);
        Check.is("one that was cut", x.trade(2, 3), BAD);
    }

    private static void alterTellsWhatItWas() {
        Check.sentence("KIND, SKIN, PRICE (what 0 to 2) of a GOOSE becomes v: what it was. BAD.");
        int[] least = {0, 0, 1};
        int[] most = {3, 4, 9};
        for (int g = 0; g < 3; g++) {
            for (int what = 0; what < 3; what++) {
                FeatherShares x = Check.of("plain 0 1;plain 0 1;plain 0 1;");
                int was = least[what];
                for (int v = least[what]; v <= most[what]; v++) {
                    Check.is("alter(" + g + ", " + what + ", " + v + ")", x.alter(g, what, v), was);
                    Check.is("what it is", x.goose(g, what), v);
                    was = v;
                }
                Check.is("to what it is", x.alter(g, what, was), was);
                Check.is("the other two stay", x.goose((g + 1) % 3, what) + x.goose((g + 2) % 3, what), 2 * least[what]);
                Check.is("the rest of it stays", x.goose(g, (what + 1) % 3), least[(what + 1) % 3]);
            }
        }
    }

    private static void alterBounds() {
        Check.sentence("GEESE (3 at most), by order, each of a KIND (0 plain, 1 moulter, 2 swan, 3 drake), with a SKIN (an OWNER's), a PRICE of a feather (1 to 9).");
        FeatherShares x = Check.of("swan 2 5;");
        int[][] wrong = {{0, -1}, {0, 4}, {1, -1}, {1, 5}, {2, 0}, {2, 10}, {2, -1}, {3, 1}, {-1, 1}};
        for (int[] w : wrong) {
            Check.is("alter(0, " + w[0] + ", " + w[1] + ")", x.alter(0, w[0], w[1]), BAD);
            Check.is("it stays", x.goose(0, 0) * 100 + x.goose(0, 1) * 10 + x.goose(0, 2), 225);
        }
        Check.is("goose 1 of one", x.alter(1, 0, 0), BAD);
    }

    private static void purse() {
        Check.sentence("MONEY of an OWNER becomes v (0 to 999): what it was. BAD.");
        FeatherShares x = new FeatherShares();
        int[] values = {0, 999, 1, 998, 20, 20};
        for (int o = 0; o < 5; o++) {
            int was = 20;
            for (int v : values) {
                Check.is("purse(" + o + ", " + v + ")", x.purse(o, v), was);
                Check.is("money", x.owner(o, 0), v);
                Check.is("all money", x.rule(3), 80 + v);
                was = v;
            }
            Check.is("purse(" + o + ", 1000)", x.purse(o, 1000), BAD);
            Check.is("purse(" + o + ", -1)", x.purse(o, -1), BAD);
            Check.is("it stays", x.owner(o, 0), 20);
        }
        Check.is("purse(5, 0)", x.purse(5, 0), BAD);
        Check.is("purse(-1, 0)", x.purse(-1, 0), BAD);
    }

    private static void grant() {
        Check.sentence("SHARE of an OWNER of a GOOSE becomes v: what it was. BAD.");
        FeatherShares x = Check.of("plain 0 1;plain 0 1;");
        for (int o = 0; o < 5; o++) {
            Check.is("grant 99", x.grant(1, o, 99), 0);
            Check.is("grant 100", x.grant(1, o, 100), BAD);
            Check.is("grant -1", x.grant(1, o, -1), BAD);
            Check.is("it stays", x.share(1, o), 99);
            Check.is("grant 0", x.grant(1, o, 0), 99);
            Check.is("grant 1", x.grant(1, o, 1), 0);
            Check.is("grant 1 again", x.grant(1, o, 1), 1);
        }
        Check.is("all of goose 1", x.goose(1, 3), 5);
        Check.is("all of goose 0", x.goose(0, 3), 0);
        Check.is("grant of goose 2", x.grant(2, 0, 1), BAD);
        Check.is("grant of goose -1", x.grant(-1, 0, 1), BAD);
        Check.is("grant of owner 5", x.grant(0, 5, 1), BAD);
        Check.is("grant of owner -1, who would be the last of the goose ahead", x.grant(1, -1, 1), BAD);
    }

    private static void grantOfOneGooseAlone() {
        Check.sentence("a SHARE of each GOOSE (0 to 99 feathers; 0 at first)");
        for (int at = 0; at < 15; at++) {
            FeatherShares x = Check.of("plain 0 1;plain 0 1;plain 0 1;");
            x.grant(at / 5, at % 5, 99);
            for (int other = 0; other < 15; other++) {
                Check.is("share " + other, x.share(other / 5, other % 5), other == at ? 99 : 0);
            }
        }
    }

    private static void plan() {
        Check.sentence("THE PLAN: TRADES, one behind another (6 at most): who buys, of whom, of which GOOSE, how many (1 to 9).");
        for (int b = -1; b <= 5; b++) {
            for (int s = -1; s <= 5; s++) {
                boolean is = b >= 0 && b < 5 && s >= 0 && s < 5 && b != s;
                FeatherShares x = Check.of("plain 0 1;plain 0 1;");
                Check.is("plan(" + b + ", " + s + ", 1, 9)", x.plan(b, s, 1, 9), is ? 1 : BAD);
                Check.is("plan has", x.rule(2), is ? 1 : 0);
            }
        }
        FeatherShares x = Check.of("plain 0 1;plain 0 1;");
        for (int n = -1; n <= 10; n++) {
            Check.is("plan of " + n, x.plan(0, 1, 0, n), n >= 1 && n <= 9 ? 1 : BAD);
            x.cut(0);
        }
        for (int g = -1; g <= 3; g++) {
            Check.is("plan of goose " + g, x.plan(0, 1, g, 1), g == 0 || g == 1 ? 1 : BAD);
            x.cut(0);
        }
        Check.is("one that can not be is planned, too", x.plan(0, 1, 0, 9), 1);
        Check.is("alike another one", x.plan(0, 1, 0, 9), 2);
    }

    private static void planIsFull() {
        Check.sentence("A TRADE more in THE PLAN: how many it has. BAD (also alike); FULL.");
        FeatherShares x = Check.of("plain 0 1;");
        for (int i = 1; i <= 6; i++) {
            Check.is("plan", x.plan(0, i % 4 + 1, 0, i), i);
        }
        Check.is("the seventh", x.plan(0, 1, 0, 9), FULL);
        Check.is("feathers of six", x.count(5), 21);
        Check.is("the sixth stays", x.trade(5, 3), 6);
        Check.is("cut(5)", x.cut(5), 6);
        Check.is("the sixth anew", x.plan(4, 0, 0, 9), 6);
        Check.is("how many", x.trade(5, 3), 9);
        Check.is("the seventh again", x.plan(0, 1, 0, 9), FULL);
        FeatherShares told = Check.of("plain 0 1;trade0 1 0 1;trade0 1 0 1;trade0 1 0 1;trade0 1 0 1;trade0 1 0 1;trade0 1 0 1;");
        Check.is("the seventh behind six that were told", told.plan(0, 1, 0, 1), FULL);
    }

    private static void cut() {
        Check.sentence("THE PLAN has its first n TRADES alone: how many it had. BAD (n above that, too).");
        FeatherShares x = new FeatherShares();
        Check.is("cut(0) of none", x.cut(0), 0);
        Check.is("cut(1) of none", x.cut(1), BAD);
        Check.is("cut(-1) of none", x.cut(-1), BAD);
        for (int had = 0; had <= 6; had++) {
            for (int n = -1; n <= 7; n++) {
                FeatherShares y = Check.of("plain 0 1;");
                for (int i = 0; i < had; i++) {
                    y.plan(1, 2, 0, i + 1);
                }
                boolean is = n >= 0 && n <= had;
                Check.is("cut(" + n + ") of " + had, y.cut(n), is ? had : BAD);
                Check.is("it has", y.rule(2), is ? n : had);
                Check.is("feathers of it", y.count(5), is ? n * (n + 1) / 2 : had * (had + 1) / 2);
            }
        }
    }

    private static void withoutGeese() {
        Check.sentence("there is no such GOOSE");
        FeatherShares x = new FeatherShares();
        for (int v = 0; v < 4; v++) {
            Check.is("goose", x.goose(0, v), BAD);
            Check.is("share", x.share(0, v), BAD);
            Check.is("alter", x.alter(0, v, 1), BAD);
            Check.is("grant", x.grant(0, v, 0), BAD);
            Check.is("plan", x.plan(v, 4, 0, 1), BAD);
            Check.is("trade", x.trade(0, v), BAD);
        }
        Check.is("purse", x.purse(0, 999), 20);
        Check.is("worth", x.owner(0, 2), 999);
        Check.is("geese of", x.owner(0, 3), 0);
        Check.is("cut", x.cut(0), 0);
        Check.is("all money", x.rule(3), 80 + 999);
    }
}
