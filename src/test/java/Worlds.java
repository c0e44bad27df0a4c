import java.util.function.Supplier;

/** Objects that are alike each time they are made, and all that can be asked of one. */
final class Worlds {
    static final String GEESE = "plain 0 3;moulter 1 2;swan 2 1;";

    private Worlds() {
    }

    /** A world, and how many there are of what calls give numbers to. */
    record World(String name, Supplier<FeatherShares> maker, int geese, int trades, int seen, int bytes) {
        FeatherShares make() {
            return maker.get();
        }
    }

    static final World[] ALL = {
        new World("ordinary", Worlds::ordinary, 3, 3, 2, 10),
        new World("one goose", Worlds::oneGoose, 1, 1, 1, 1),
        new World("two geese", Worlds::twoGeese, 2, 0, 3, 0),
        new World("full", Worlds::full, 3, 6, 6, 160),
        new World("poor", Worlds::poor, 3, 0, 0, 0),
        new World("new", FeatherShares::new, 0, 0, 0, 0),
    };

    private static FeatherShares ordinary() {
        FeatherShares x = Check.of(GEESE);
        for (int o = 0; o < 5; o++) {
            x.grant(0, o, 10 + o);
            x.grant(1, o, 50 - 9 * o);
            x.grant(2, o, 7 * o);
            x.purse(o, 100 + 50 * o);
        }
        x.plan(0, 1, 0, 4);
        x.plan(4, 3, 2, 9);
        x.plan(2, 0, 1, 1);
        x.keep(0);
        x.weeks(2);
        x.see(0, 0, 1, 9);
        x.see(2, 4, 20, 3);
        x.sheet(0, 1, 9);
        layRow(x, 0, 0, 1, 2, 4, 1, 2, 1, 1, 2);
        x.sheet(1, 0, 4);
        layRow(x, 1, 4, 3, 2, 5);
        x.sheet(2, 2, 8);
        layRow(x, 2, 0, 4, 1, 3, 1, 1, 1, 1);
        Check.feed(x, "drake 3 8;");
        return x;
    }

    private static FeatherShares oneGoose() {
        FeatherShares x = Check.of("drake 4 9;share 0 0 20;share 0 2 30;trade 0 2 0 1;");
        x.see(0, 2, 0, 30);
        x.sheet(3, 2, 4);
        layRow(x, 3, 0, 2, 0, 2);
        x.feed(';');
        return x;
    }

    private static FeatherShares twoGeese() {
        FeatherShares x = Check.of("swan 4 1;moulter 0 2;share 0 4 60;share 1 0 9;share 1 3 9;");
        x.keep(1);
        x.see(0, 0, 0, 0);
        x.see(1, 3, 1, 6);
        x.see(1, 4, 20, 0);
        return x;
    }

    /** All is as much as can be; the tape has no text that can be taken. */
    private static FeatherShares full() {
        FeatherShares x = Check.of("plain 0 9;moulter 1 9;swan 2 9;");
        for (int o = 0; o < 5; o++) {
            x.purse(o, 999);
        }
        for (int i = 0; i < 33; i++) {
            x.weeks(30);
        }
        x.weeks(9);
        for (int o = 0; o < 5; o++) {
            x.grant(0, o, 99);
            x.grant(1, o, 99);
            x.grant(2, o, 99);
        }
        for (int i = 0; i < 6; i++) {
            x.plan(i % 5, (i + 1) % 5, i % 3, 9);
            x.see(i % 3, i % 5, 0, 99);
        }
        x.keep(0);
        x.keep(1);
        for (int k = 0; k < 4; k++) {
            x.sheet(k, k % 3, 40);
        }
        layRow(x, 3, 0, 1, 0, 9);
        Check.feed(x, "x".repeat(160));
        return x;
    }

    private static FeatherShares poor() {
        FeatherShares x = Check.of("plain 0 1;plain 1 1;plain 2 1;");
        for (int o = 0; o < 5; o++) {
            x.purse(o, 0);
        }
        return x;
    }

    static void layRow(FeatherShares x, int k, int... row) {
        for (int i = 0; i < row.length; i++) {
            x.lay(k, i, row[i]);
        }
    }

    /** What an image keeps, as far as 40 calls tell it. */
    static String flock(FeatherShares x) {
        StringBuilder told = new StringBuilder();
        told.append(x.rule(0)).append(" geese, week ").append(x.rule(1)).append(", plan ").append(x.rule(2));
        told.append('/').append(x.count(5)).append('/').append(x.runs(0));
        for (int g = 0; g < x.rule(0); g++) {
            told.append(" g").append(g);
            for (int what = 0; what < 3; what++) {
                told.append(' ').append(x.goose(g, what));
            }
            for (int o = 0; o < 5; o++) {
                told.append(' ').append(x.share(g, o));
            }
        }
        for (int o = 0; o < 5; o++) {
            told.append(" o").append(o).append(' ').append(x.owner(o, 0)).append(' ').append(x.owner(o, 1));
        }
        return told.toString();
    }

    /** All that can be asked without a change. */
    static String visible(FeatherShares x) {
        StringBuilder told = new StringBuilder(flock(x));
        for (int what = 0; what < 4; what++) {
            told.append(" c").append(x.count(what));
        }
        for (int i = 0; i < x.rule(2); i++) {
            told.append(" t").append(x.trade(i, 0)).append(x.trade(i, 1)).append(x.trade(i, 2)).append(x.trade(i, 3));
        }
        for (int g = 0; g < x.rule(0); g++) {
            told.append(" k").append(x.kinds(g)).append('/').append(x.skins(g));
        }
        return told.append(" f").append(x.fault()).append(" r").append(x.torn()).toString();
    }

    /** All that can be asked, that which is hidden, too (sheets, images, the tape); it uses the object up. */
    static String all(FeatherShares x) {
        StringBuilder told = new StringBuilder(visible(x));
        for (int k = 0; k < 4; k++) {
            for (int lane = 0; lane < 3; lane++) {
                told.append(" s").append(x.read(k, lane, 0, 10)).append('/').append(x.torn());
            }
            told.append('/').append(x.read(k, 0, 0, 1)).append('/').append(x.read(k, 1, 4, 1));
        }
        for (int k = 0; k < 2; k++) {
            told.append(" back ").append(x.back(k)).append(' ').append(flock(x));
        }
        told.append(" text ").append(x.text()).append(' ').append(x.fault()).append(' ').append(flock(x));
        return told.toString();
    }
}
