import java.util.ArrayList;
import java.util.Arrays;
import java.util.List;
import java.util.Map;
import java.util.TreeMap;
import java.util.regex.Matcher;
import java.util.regex.Pattern;

/** A reader of texts of the tests' own: what a text tells, or its first fault and where that is. */
final class TextModel {
    private static final Pattern TOKEN = Pattern.compile(" *(?:([a-z]+)|([0-9]+)|(;)|(\\z)|(.))", Pattern.DOTALL);
    private static final int NAME = 1, NUMBER = 2, SIGN = 3, END = 4, NO_TOKEN = 5;
    private static final List<String> KINDS = Arrays.asList("plain", "moulter", "swan", "drake");

    private final Matcher matcher;
    private final List<int[]> geese = new ArrayList<>();
    private final List<int[]> trades = new ArrayList<>();
    private final Map<Integer, Integer> shares = new TreeMap<>();
    private final Map<Integer, Integer> money = new TreeMap<>();
    private int mostNamed = -1;
    private int lines = 0;
    private int fault = 0;
    private int place = 0;

    private static final class Fault extends Exception {
        private static final long serialVersionUID = 1L;
        private final int code;

        private Fault(int code) {
            this.code = code;
        }
    }

    TextModel(String text) {
        matcher = TOKEN.matcher(text);
        try {
            for (String name = next(NAME); name != null; name = next(NAME)) {
                readLine(name);
                next(SIGN);
                lines++;
            }
            place = text.length();
            fault = mostNamed >= geese.size() ? 6 : 0;
        } catch (Fault found) {
            fault = found.code;
        }
    }

    int fault() {
        return fault;
    }

    int place() {
        return place;
    }

    int lines() {
        return lines;
    }

    /** Of each: kind, skin, price. */
    List<int[]> geese() {
        return geese;
    }

    List<int[]> trades() {
        return trades;
    }

    /** By 10 times the goose and the owner. */
    Map<Integer, Integer> shares() {
        return shares;
    }

    Map<Integer, Integer> money() {
        return money;
    }

    /** The next token, which must be of this group; null at an end that may stand there. */
    private String next(int group) throws Fault {
        matcher.find();
        int is = NAME;
        while (matcher.group(is) == null) {
            is++;
        }
        place = matcher.start(is);
        if (is == NO_TOKEN || is == NUMBER && matcher.group(is).length() > 2) {
            throw new Fault(1);
        }
        if (is == END && group == NAME) {
            return null;
        }
        if (is != group) {
            throw new Fault(2);
        }
        return matcher.group(is);
    }

    private int next(int least, int most) throws Fault {
        int v = Integer.parseInt(next(NUMBER));
        if (v < least || v > most) {
            throw new Fault(3);
        }
        return v;
    }

    private void readLine(String name) throws Fault {
        if (KINDS.contains(name)) {
            if (geese.size() == 3) {
                throw new Fault(5);
            }
            geese.add(new int[] {KINDS.indexOf(name), next(0, 4), next(1, 9)});
        } else if (name.equals("share")) {
            int g = next(0, 2);
            mostNamed = Math.max(mostNamed, g);
            put(shares, 10 * g + next(0, 4));
        } else if (name.equals("money")) {
            put(money, next(0, 4));
        } else if (name.equals("trade")) {
            readTrade();
        } else {
            throw new Fault(2);
        }
    }

    private void put(Map<Integer, Integer> told, int key) throws Fault {
        if (told.containsKey(key)) {
            throw new Fault(4);
        }
        told.put(key, next(0, 99));
    }

    private void readTrade() throws Fault {
        if (trades.size() == 6) {
            throw new Fault(5);
        }
        int b = next(0, 4);
        int s = next(0, 4);
        if (b == s) {
            throw new Fault(3);
        }
        int g = next(0, 2);
        mostNamed = Math.max(mostNamed, g);
        trades.add(new int[] {b, s, g, next(1, 9)});
    }
}
