import java.lang.reflect.Method;
import java.lang.reflect.Modifier;
import java.util.Arrays;
import java.util.Map;
import java.util.Random;
import java.util.TreeMap;

/** Runs of up to 512 calls by a seed: each answer against that of Model. */
public final class ModelTest {
    private static final int RUNS = 500, CALLS = 512;
    /** What a number of a call is by most: its last value; "g" 2, "o" 4; "*" any. */
    private static final String[] CALLS_BY_NUMBERS = {"feed *", "end *", "text", "fault", "rule 5", "goose g 4", "owner o 3",
        "share g o", "trade 5 3", "alter g 2 4", "purse o 999", "grant g o 99", "plan o o g 9", "cut 6", "buy o o g 9",
        "pluck o o g 9", "weeks 30", "runs 2", "ahead o 3", "later g o 60", "eggs o 60", "bare g 495", "rich 60 1",
        "turn g", "need o g 1", "best o 2 11", "leave o 1", "swings g o", "power g o 1", "reign g o", "luck 10 g o 8 1",
        "mean 10 g 8 1", "see g o 20 99", "forget 6", "kinds g", "skins g", "look g 1", "drift * 60 1", "keep 1", "back 1",
        "sheet 3 2 40", "lay 3 40 *", "read 3 2 40 10", "torn", "count 5"};
    private static final Map<String, Method> METHODS = new TreeMap<>();

    private final Random random;
    private final FeatherShares x = new FeatherShares();
    private final Model model = new Model();
    private final StringBuilder run = new StringBuilder();
    private int calls = 0;
    private boolean alike = true;

    private ModelTest(int seed) {
        random = new Random(seed);
        run.append("run ").append(seed).append(": ");
    }

    public static void main(String[] args) throws ReflectiveOperationException {
        for (Method m : FeatherShares.class.getDeclaredMethods()) {
            if (Modifier.isPublic(m.getModifiers())) {
                METHODS.put(m.getName(), m);
            }
        }
        Check.is("calls", METHODS.size(), CALLS_BY_NUMBERS.length);
        int runs = args.length > 0 ? Integer.parseInt(args[0]) : RUNS;
        for (int seed = 0; seed < runs; seed++) {
            new ModelTest(seed).all();
        }
        Check.end("ModelTest");
    }

    private void all() throws ReflectiveOperationException {
        if (random.nextInt(8) > 0) {
            aText(random.nextInt(3) == 0);
        }
        boolean hasShares = random.nextBoolean();
        for (int g = 0; g < 3 && hasShares; g++) {
            for (int o = 0; o < 5; o++) {
                call("grant", g, o, random.nextInt(3) == 0 ? random.nextInt(100) : random.nextInt(20));
            }
        }
        while (alike && calls < CALLS) {
            switch (random.nextInt(60)) {
                case 0: aText(random.nextBoolean()); break;
                case 1: case 2: aSheet(); break;
                case 3: sights(); break;
                case 4: manyWeeks(); break;
                default: anyCall();
            }
        }
    }

    private void anyCall() throws ReflectiveOperationException {
        String[] words = CALLS_BY_NUMBERS[random.nextInt(CALLS_BY_NUMBERS.length)].split(" ");
        if (words[0].equals("text") && random.nextInt(4) > 0 || words[0].equals("best") && random.nextInt(3) > 0) {
            return;
        }
        int[] numbers = new int[words.length - 1];
        for (int k = 0; k < numbers.length; k++) {
            numbers[k] = number(words[k + 1]);
        }
        if (words[0].equals("feed") && random.nextInt(4) > 0) {
            numbers[0] = " ;0129plainsh".charAt(random.nextInt(13));
        }
        call(words[0], numbers);
    }

    private int number(String word) {
        int[] odd = {-1, Integer.MIN_VALUE, Integer.MAX_VALUE, -256, 256, 65536, 65537};
        if (word.equals("*")) {
            return random.nextInt(3) == 0 ? random.nextInt() : random.nextInt(3) == 0 ? odd[random.nextInt(7)] : random.nextInt(130);
        }
        int most = word.equals("g") ? 2 : word.equals("o") ? 4 : Integer.parseInt(word);
        int way = random.nextInt(80);
        if (way < 2) {
            return way == 0 ? most + 1 : odd[random.nextInt(7)];
        }
        return way < 8 ? most : way < 40 ? random.nextInt(Math.min(most, 9) + 1) : random.nextInt(most + 1);
    }

    private void call(String name, int... numbers) throws ReflectiveOperationException {
        if (!alike || calls >= CALLS) {
            return;
        }
        Object[] boxed = new Object[numbers.length];
        for (int k = 0; k < numbers.length; k++) {
            boxed[k] = numbers[k];
        }
        long got = ((Number) METHODS.get(name).invoke(x, boxed)).longValue();
        long due = model.call(name, numbers);
        calls++;
        run.append(name).append(Arrays.toString(numbers)).append('=').append(got).append(' ');
        alike = got == due;
        Check.is(alike ? name : run.toString(), got, due);
    }

    private void aText(boolean spoilt) throws ReflectiveOperationException {
        String[] names = {"plain", "moulter", "swan", "drake"};
        StringBuilder text = new StringBuilder();
        int geese = 1 + random.nextInt(3);
        for (int g = 0; g < geese; g++) {
            text.append(names[random.nextInt(4)]).append(random.nextInt(5)).append(' ').append(1 + random.nextInt(9)).append(';');
        }
        for (int i = random.nextInt(6); i > 0; i--) {
            text.append("share").append(random.nextInt(geese)).append(' ').append(random.nextInt(5)).append(' ');
            text.append(random.nextInt(100)).append(';');
        }
        for (int i = random.nextInt(3); i > 0; i--) {
            text.append("money").append(random.nextInt(5)).append(' ').append(random.nextInt(100)).append(';');
        }
        for (int i = random.nextInt(4); i > 0; i--) {
            int b = random.nextInt(5);
            text.append("trade").append(b).append(' ').append((b + 1) % 5).append(' ').append(random.nextInt(geese)).append(' ');
            text.append(1 + random.nextInt(9)).append(';');
        }
        if (spoilt) {
            text.setCharAt(random.nextInt(text.length()), " ;9az0#".charAt(random.nextInt(7)));
        }
        call("end", 0);
        for (int i = 0; i < Math.min(160, text.length()); i++) {
            call("feed", text.charAt(i));
        }
        call("text");
        call("fault");
    }

    /** A sheet of which whole trades can be read, but for one cell now and then. */
    private void aSheet() throws ReflectiveOperationException {
        int k = random.nextInt(4);
        int lane = random.nextInt(3);
        int size = random.nextInt(20);
        call("sheet", k, lane, size);
        int wide = lane == 0 ? 256 : 65536;
        for (int i = 0; i < size; i++) {
            int v = i % 4 < 2 ? random.nextInt(5) : i % 4 == 2 ? random.nextInt(Math.max(1, x.rule(0))) : 1 + random.nextInt(3);
            call("lay", k, i, random.nextInt(20) == 0 ? v + random.nextInt(4) * wide - 2 : v);
        }
        for (int i = 0; i < 3; i++) {
            call("read", k, lane, 4 * random.nextInt(3), random.nextInt(5));
            call("torn");
        }
    }

    private void sights() throws ReflectiveOperationException {
        call("forget", x.count(0));
        for (int i = random.nextInt(4); i > 0; i--) {
            int g = random.nextInt(Math.max(1, x.rule(0)));
            int o = random.nextInt(5);
            int n = random.nextInt(21);
            call("see", g, o, n, x.later(g, o, n));
            call("kinds", g);
            call("skins", g);
            call("look", g, random.nextInt(2));
        }
    }

    private void manyWeeks() throws ReflectiveOperationException {
        if (random.nextInt(3) == 0) {
            for (int i = 0; i < 34; i++) {
                call("weeks", 30);
            }
        }
        call("weeks", random.nextInt(31));
        call("rule", 1);
    }
}
