import java.util.ArrayList;
import java.util.Arrays;
import java.util.List;
import java.util.Map;
import java.util.Random;
import java.util.TreeMap;
import java.util.regex.Matcher;
import java.util.regex.Pattern;

/** Texts by a seed, whole ones and spoilt ones, each also cut behind each byte, against a reader of the test's own. */
public final class TextCrossTest {
    private static final Pattern TOKEN = Pattern.compile(" *(?:([a-z]+)|([0-9]+)|(;)|(\\z)|(.))", Pattern.DOTALL);
    private static final List<String> KINDS = Arrays.asList("plain", "moulter", "swan", "drake");
    private static final String[] PIECES = {"plain", "moulter", "swan", "drake", "share", "money", "trade", "fox", "plai",
        "sharee", ";", ";;", " ", "  ", "0", "1", "2", "3", "4", "5", "9", "10", "00", "04", "99", "100", "0123", "#",
        "P", "\t", "{", "`", "/", ":", "\0", "\177"};

    private static final int[] MET = new int[7];

    private final String text;
    private final Matcher matcher;
    private final List<int[]> geese = new ArrayList<>();
    private final List<int[]> trades = new ArrayList<>();
    private final Map<Integer, Integer> shares = new TreeMap<>();
    private final Map<Integer, Integer> money = new TreeMap<>();
    private int mostNamed = -1;
    private int place;
    private int lines = 0;

    /** What a text is refused for: where and why. */
    private static final class Fault extends Exception {
        private static final long serialVersionUID = 1L;
        private final int code;
        private final int place;

        private Fault(int code, int place) {
            this.code = code;
            this.place = place;
        }
    }

    private TextCrossTest(String text) {
        this.text = text;
        matcher = TOKEN.matcher(text);
    }

    public static void main(String[] args) {
        for (int seed = 0; seed < 1500; seed++) {
            Random random = new Random(seed);
            String text = random.nextInt(5) == 0 ? anyPieces(random) : someLines(random);
            for (int i = random.nextInt(3); i > 0; i--) {
                text = spoilt(text, random);
            }
            text = text.substring(0, Math.min(160, text.length()));
            compare(text, text);
            for (int n = seed % 10 == 0 ? 0 : text.length(); n < text.length(); n++) {
                compare(text, text.substring(0, n));
            }
        }
        for (int fault = 0; fault <= 6; fault++) {
            Check.isTrue("fault " + fault + " is met often, not " + MET[fault] + " times", MET[fault] >= 50);
        }
        Check.end("TextCrossTest");
    }

    private static String anyPieces(Random random) {
        StringBuilder text = new StringBuilder();
        for (int i = random.nextInt(12); i >= 0; i--) {
            text.append(PIECES[random.nextInt(PIECES.length)]);
        }
        return text.toString();
    }

    private static String someLines(Random random) {
        StringBuilder text = new StringBuilder();
        for (int i = random.nextInt(14); i >= 0; i--) {
            int what = random.nextInt(10);
            if (what < 3) {
                text.append(KINDS.get(random.nextInt(4))).append(number(random, 5)).append(number(random, 10));
            } else if (what < 6) {
                text.append("share").append(number(random, 3)).append(number(random, 5)).append(number(random, 100));
            } else if (what < 7) {
                text.append("money").append(number(random, 5)).append(number(random, 100));
            } else {
                int b = random.nextInt(5);
                text.append("trade ").append(b).append(number((b + 1 + random.nextInt(4)) % 5));
                text.append(number(random, 3)).append(number(random, 10));
            }
            text.append(random.nextInt(4) == 0 ? " ; " : ";");
        }
        return text.toString();
    }

    private static String number(Random random, int bound) {
        return number(random.nextInt(bound));
    }

    private static String number(int v) {
        return " " + v;
    }

    private static String spoilt(String text, Random random) {
        int at = random.nextInt(text.length() + 1);
        int to = Math.min(text.length(), at + random.nextInt(3));
        String piece = random.nextInt(4) == 0 ? "" : PIECES[random.nextInt(PIECES.length)];
        return text.substring(0, at) + piece + text.substring(to);
    }

    private static void compare(String whole, String kept) {
        FeatherShares x = Check.of("drake 3 8;share 0 4 12;trade 0 1 0 5;");
        String before = Worlds.flock(x);
        Check.feed(x, whole);
        x.end(kept.length());
        TextCrossTest due = new TextCrossTest(kept);
        try {
            due.readAll();
            MET[0]++;
            Check.is("text() of " + kept, x.text(), due.lines);
            Check.is("fault() of " + kept, x.fault(), 0);
            Check.same("what is told by " + kept, Worlds.flock(x), due.flock());
            for (int i = 0; i < due.trades.size(); i++) {
                for (int what = 0; what < 4; what++) {
                    Check.is("trade " + i + " by " + kept, x.trade(i, what), due.trades.get(i)[what]);
                }
            }
        } catch (Fault fault) {
            MET[fault.code]++;
            Check.is("text() of " + kept, x.text(), -10 - fault.place);
            Check.is("fault() of " + kept, x.fault(), fault.code);
            Check.same("what stays by " + kept, Worlds.flock(x), before);
        }
    }

    private void readAll() throws Fault {
        for (String name = next(1); name != null; name = next(1)) {
            readLine(name);
            next(3);
            lines++;
        }
        if (mostNamed >= geese.size()) {
            throw new Fault(6, text.length());
        }
    }

    /** The next token, which must be of this group (1 name, 2 number, 3 sign); null at an end that may stand there. */
    private String next(int group) throws Fault {
        matcher.find();
        for (int i = 1; i <= 5; i++) {
            if (matcher.group(i) != null) {
                place = matcher.start(i);
                if (i == 5 || i == 2 && matcher.group(i).length() > 2) {
                    throw new Fault(1, place);
                }
                if (i == 4 && group == 1) {
                    return null;
                }
                if (i != group) {
                    throw new Fault(2, place);
                }
                return matcher.group(i);
            }
        }
        throw new IllegalStateException(text);
    }

    private int next(int least, int most) throws Fault {
        int v = Integer.parseInt(next(2));
        if (v < least || v > most) {
            throw new Fault(3, place);
        }
        return v;
    }

    private void readLine(String name) throws Fault {
        if (KINDS.contains(name)) {
            if (geese.size() == 3) {
                throw new Fault(5, place);
            }
            geese.add(new int[] {KINDS.indexOf(name), next(0, 4), next(1, 9)});
        } else if (name.equals("share")) {
            int g = next(0, 2);
            int o = next(0, 4);
            mostNamed = Math.max(mostNamed, g);
            put(shares, 10 * g + o, 99);
        } else if (name.equals("money")) {
            put(money, next(0, 4), 99);
        } else if (name.equals("trade")) {
            readTrade();
        } else {
            throw new Fault(2, place);
        }
    }

    private void put(Map<Integer, Integer> told, int key, int most) throws Fault {
        if (told.containsKey(key)) {
            throw new Fault(4, place);
        }
        told.put(key, next(0, most));
    }

    private void readTrade() throws Fault {
        if (trades.size() == 6) {
            throw new Fault(5, place);
        }
        int b = next(0, 4);
        int s = next(0, 4);
        if (b == s) {
            throw new Fault(3, place);
        }
        trades.add(new int[] {b, s, next(0, 2), next(1, 9)});
        mostNamed = Math.max(mostNamed, trades.get(trades.size() - 1)[2]);
    }

    /** As Worlds.flock() tells it, but what comes by the plan, which is no text's. */
    private String flock() {
        FeatherShares x = new FeatherShares();
        StringBuilder again = new StringBuilder();
        for (int[] goose : geese) {
            again.append(KINDS.get(goose[0])).append(goose[1]).append(' ').append(goose[2]).append(';');
        }
        Check.tell(x, again.toString());
        shares.forEach((key, v) -> x.grant(key / 10, key % 10, v));
        money.forEach((o, v) -> x.purse(o, v));
        for (int[] t : trades) {
            x.plan(t[0], t[1], t[2], t[3]);
        }
        return Worlds.flock(x);
    }
}
