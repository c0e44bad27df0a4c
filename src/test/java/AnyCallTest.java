import java.lang.reflect.Method;
import java.lang.reflect.Modifier;
import java.util.ArrayList;
import java.util.Arrays;
import java.util.Comparator;
import java.util.List;
import java.util.Random;

/** Runs of any calls with any numbers: none throws, none that only tells or is refused changes anything. */
public final class AnyCallTest {
    private static final int RUNS = 600, CALLS = 512;
    private static final List<String> CHANGING = Arrays.asList("feed", "end", "text", "alter", "purse", "grant", "plan",
        "cut", "buy", "pluck", "weeks", "see", "forget", "keep", "back", "sheet", "lay", "read");
    private static final String[] PIECES = {"plain", "moulter", "swan", "drake", "share", "money", "trade", ";", " ",
        "  ", "0 ", "1 ", "2 ", "3 ", "4 ", "9 ", "10 ", "99 ", "100", "x", "X", "plain 0 1;", "swan 3 2;",
        "moulter 2 9;", "share 0 1 30;", "share 1 4 99;", "share 0 0 20;", "money 0 99;", "trade 0 1 0 4;"};

    public static void main(String[] args) throws ReflectiveOperationException {
        List<Method> calls = new ArrayList<>();
        for (Method m : FeatherShares.class.getDeclaredMethods()) {
            if (Modifier.isPublic(m.getModifiers())) {
                calls.add(m);
            }
        }
        calls.sort(Comparator.comparing(Method::getName));
        for (int run = 0; run < RUNS; run++) {
            anyRun(calls, new Random(run));
        }
        Check.end("AnyCallTest");
    }

    private static void anyRun(List<Method> calls, Random random) throws ReflectiveOperationException {
        FeatherShares x = new FeatherShares();
        boolean wild = random.nextInt(3) == 0;
        for (int i = 0; i < CALLS; i++) {
            if (random.nextInt(60) == 0) {
                feedPieces(x, random);
            }
            Method call = calls.get(random.nextInt(calls.size()));
            Object[] numbers = new Object[call.getParameterCount()];
            for (int k = 0; k < numbers.length; k++) {
                numbers[k] = number(random, wild);
            }
            String before = all(x);
            long got = ((Number) call.invoke(x, numbers)).longValue();
            boolean mayChange = CHANGING.contains(call.getName()) && got >= 0 || call.getName().equals("text");
            if (!mayChange) {
                String told = call.getName() + Arrays.toString(numbers) + " = " + got;
                Check.isTrue(told + " leaves " + before + ", not " + all(x), before.equals(all(x)));
            }
            Check.isTrue(call.getName() + " answers no less than told", got >= -190);
        }
    }

    private static void feedPieces(FeatherShares x, Random random) {
        x.end(0);
        for (int i = random.nextInt(12); i > 0; i--) {
            for (char c : PIECES[random.nextInt(PIECES.length)].toCharArray()) {
                x.feed(c);
            }
        }
        if (random.nextInt(3) > 0) {
            x.text();
        }
    }

    private static int number(Random random, boolean wild) {
        int[] edges = {-1, 9, 10, 20, 21, 30, 31, 40, 41, 60, 61, 99, 100, 160, 495, 999, 1000, 1 << 16, 1 << 24,
            Integer.MAX_VALUE, Integer.MAX_VALUE - 3, Integer.MIN_VALUE};
        if (wild && random.nextInt(4) == 0) {
            return random.nextInt();
        }
        return random.nextInt(6) == 0 ? edges[random.nextInt(edges.length)] : random.nextInt(5);
    }

    /** All that can be asked of it. */
    private static String all(FeatherShares x) {
        StringBuilder told = new StringBuilder();
        for (int what = 0; what < 6; what++) {
            told.append(x.rule(what)).append(' ').append(x.count(what)).append(' ');
        }
        for (int g = 0; g < 3; g++) {
            for (int what = 0; what < 5; what++) {
                told.append(x.goose(g, what)).append(' ').append(x.share(g, what)).append(' ');
            }
            told.append(x.kinds(g)).append(' ').append(x.skins(g)).append(' ');
        }
        for (int i = 0; i < 6; i++) {
            for (int what = 0; what < 4; what++) {
                told.append(x.owner(i, what)).append(' ').append(x.trade(i, what)).append(' ');
            }
        }
        return told.append(x.fault()).append(' ').append(x.torn()).toString();
    }
}
