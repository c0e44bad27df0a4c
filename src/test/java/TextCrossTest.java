import java.util.Arrays;
import java.util.List;
import java.util.Random;

/** Texts by a seed, whole ones and spoilt ones, each also cut behind each byte, against a reader of the test's own. */
public final class TextCrossTest {
    private static final List<String> KINDS = Arrays.asList("plain", "moulter", "swan", "drake");
    private static final String[] PIECES = {"plain", "moulter", "swan", "drake", "share", "money", "trade", "fox", "plai",
        "sharee", ";", ";;", " ", "  ", "0", "1", "2", "3", "4", "5", "9", "10", "00", "04", "99", "100", "0123", "#",
        "P", "\t", "{", "`", "/", ":", "\0", "\177"};

    private static final int[] MET = new int[7];

    public static void main(String[] args) {
        for (int seed = 0; seed < 1500; seed++) {
            Random random = new Random(seed);
            String text = random.nextInt(5) == 0 ? anyPieces(random) : someLines(random);
            for (int i = random.nextInt(3); i > 0; i--) {
                text = spoilt(text, random);
            }
            text = text.substring(0, Math.min(160, text.length()));
            compare(text, text);
            for (int n = seed % 10 == 0 ? 0 : text.length(); n < text.length(); n++) {
                compare(text, text.substring(0, n));
            }
        }
        for (int fault = 0; fault <= 6; fault++) {
            Check.isTrue("fault " + fault + " is met often, not " + MET[fault] + " times", MET[fault] >= 50);
        }
        Check.end("TextCrossTest");
    }

    private static String anyPieces(Random random) {
        StringBuilder text = new StringBuilder();
        for (int i = random.nextInt(12); i >= 0; i--) {
            text.append(PIECES[random.nextInt(PIECES.length)]);
        }
        return text.toString();
    }

    private static String someLines(Random random) {
        StringBuilder text = new StringBuilder();
        for (int i = random.nextInt(14); i >= 0; i--) {
            int what = random.nextInt(10);
            if (what < 3) {
                text.append(KINDS.get(random.nextInt(4))).append(number(random, 5)).append(number(random, 10));
            } else if (what < 6) {
                text.append("share").append(number(random, 3)).append(number(random, 5)).append(number(random, 100));
            } else if (what < 7) {
                text.append("money").append(number(random, 5)).append(number(random, 100));
            } else {
                int b = random.nextInt(5);
                text.append("trade ").append(b).append(number((b + 1 + random.nextInt(4)) % 5));
                text.append(number(random, 3)).append(number(random, 10));
            }
            text.append(random.nextInt(4) == 0 ? " ; " : ";");
        }
        return text.toString();
    }

    private static String number(Random random, int bound) {
        return number(random.nextInt(bound));
    }

    private static String number(int v) {
        return " " + v;
    }

    private static String spoilt(String text, Random random) {
        int at = random.nextInt(text.length() + 1);
        int to = Math.min(text.length(), at + random.nextInt(3));
        String piece = random.nextInt(4) == 0 ? "" : PIECES[random.nextInt(PIECES.length)];
        return text.substring(0, at) + piece + text.substring(to);
    }

    private static void compare(String whole, String kept) {
        FeatherShares x = Check.of("drake 3 8;share 0 4 12;trade 0 1 0 5;");
        String before = Worlds.flock(x);
        Check.feed(x, whole);
        x.end(kept.length());
        TextModel due = new TextModel(kept);
        MET[due.fault()]++;
        Check.is("text() of " + kept, x.text(), due.fault() == 0 ? due.lines() : -10 - due.place());
        Check.is("fault() of " + kept, x.fault(), due.fault());
        Check.same("behind " + kept, Worlds.flock(x), due.fault() == 0 ? flock(due) : before);
        for (int i = 0; i < due.trades().size() && due.fault() == 0; i++) {
            for (int what = 0; what < 4; what++) {
                Check.is("trade " + i + " by " + kept, x.trade(i, what), due.trades().get(i)[what]);
            }
        }
    }

    /** The same told by calls that change one number each. */
    private static String flock(TextModel due) {
        FeatherShares x = new FeatherShares();
        Check.tell(x, "plain 0 1;".repeat(due.geese().size()));
        for (int g = 0; g < due.geese().size(); g++) {
            for (int what = 0; what < 3; what++) {
                x.alter(g, what, due.geese().get(g)[what]);
            }
        }
        due.shares().forEach((key, v) -> x.grant(key / 10, key % 10, v));
        due.money().forEach((o, v) -> x.purse(o, v));
        for (int[] t : due.trades()) {
            x.plan(t[0], t[1], t[2], t[3]);
        }
        return Worlds.flock(x);
    }
}
