import java.lang.reflect.InvocationTargetException;
import java.lang.reflect.Method;
import java.util.ArrayList;
import java.util.Arrays;
import java.util.List;

/**
 * Each number of each call at its least and its most, one below and one above: BAD there, whatever else would fit,
 * and nothing is changed; not BAD between. The bounds stand in BOUNDS as the document tells them.
 */
public final class BoundsTest {
    /** "g" a GOOSE, "o" an OWNER, "i" a TRADE, "t" so many TRADES at most, "s" SEEN, "l" bytes; "=" just this one. */
    private static final String[] BOUNDS = {
        "2 feed 0..127", "3 end l", "6 rule 0..5", "7 goose g 0..4", "8 owner o 0..3", "9 share g o",
        "10 trade i 0..3", "11 alter g =0 0..3", "11 alter g =1 0..4", "11 alter g =2 1..9", "11 alter g 0..2 =1",
        "12 purse o 0..999", "13 grant g o 0..99", "14 plan o o g 1..9", "15 cut t", "16 buy o o g 1..9",
        "17 pluck o o g 1..9", "18 weeks 0..30", "19 runs 0..2", "20 ahead o 0..3", "21 later g o 0..60",
        "22 eggs o 0..60", "23 bare g 0..495", "24 rich 0..60 0..1", "25 turn g", "26 need o g 0..1",
        "27 best o 0..2 0..2", "27 best o 0..2 10..11", "28 leave o 0..1", "29 swings g o", "30 power g o 0..1",
        "31 reign g o", "32 luck 0..10 g o 0..8 0..1", "33 mean 0..10 g 0..8 0..1", "34 see g o 0..20 0..99",
        "35 forget s", "36 kinds g", "37 skins g", "38 look g 0..1", "39 drift =-1 1..60 0..1", "40 keep 0..1",
        "41 back 0..1", "42 sheet 0..3 0..2 0..40", "43 lay 0..3 =0 =0", "44 read 0..3 0..2 =0 0..10", "46 count 0..5"};

    private final Worlds.World world;
    private final String call;
    private final int[] least;
    private final int[] most;
    private final boolean[] given;

    private BoundsTest(Worlds.World world, String row) {
        this.world = world;
        String[] words = row.split(" ");
        call = words[1];
        least = new int[words.length - 2];
        most = new int[least.length];
        given = new boolean[least.length];
        for (int k = 0; k < least.length; k++) {
            String word = words[k + 2];
            given[k] = word.startsWith("=");
            int dots = word.indexOf("..");
            least[k] = given[k] ? Integer.parseInt(word.substring(1)) : dots < 0 ? 0 : Integer.parseInt(word.substring(0, dots));
            most[k] = given[k] ? least[k] : dots < 0 ? mostOf(word.charAt(0)) : Integer.parseInt(word.substring(dots + 2));
        }
    }

    public static void main(String[] args) throws ReflectiveOperationException {
        Check.sentence("BAD -1 (a number is not as told, there is no such GOOSE, OWNER, TRADE, IMAGE, SHEET)");
        for (Worlds.World world : Worlds.ALL) {
            for (String row : BOUNDS) {
                new BoundsTest(world, row).eachNumber();
            }
        }
        whatOfBest();
        allCallsAreLookedAt();
        Check.end("BoundsTest");
    }

    private int mostOf(char letter) {
        switch (letter) {
            case 'g': return world.geese() - 1;
            case 'o': return 4;
            case 'i': return world.trades() - 1;
            case 't': return world.trades();
            case 's': return world.seen();
            default: return world.bytes();
        }
    }

    private static Method named(String name) {
        for (Method m : FeatherShares.class.getMethods()) {
            if (m.getName().equals(name) && m.getDeclaringClass() == FeatherShares.class) {
                return m;
            }
        }
        throw new IllegalArgumentException(name);
    }

    private static long answer(FeatherShares x, String name, int[] numbers) throws ReflectiveOperationException {
        Object[] boxed = new Object[numbers.length];
        for (int k = 0; k < numbers.length; k++) {
            boxed[k] = numbers[k];
        }
        try {
            return ((Number) named(name).invoke(x, boxed)).longValue();
        } catch (InvocationTargetException e) {
            throw new IllegalStateException(name + Arrays.toString(numbers), e.getCause());
        }
    }

    private void eachNumber() throws ReflectiveOperationException {
        String untouched = Worlds.all(world.make());
        for (int k = 0; k < least.length; k++) {
            if (!given[k]) {
                for (int[] others : othersOf(k)) {
                    outside(k, others, untouched);
                    inside(k, others);
                }
            }
        }
    }

    /** All at their least, all at their most, and a buyer who is not the seller. */
    private List<int[]> othersOf(int k) {
        List<int[]> all = new ArrayList<>();
        int[] low = least.clone();
        int[] high = most.clone();
        if (isOfTwoOwners()) {
            low[k == 1 ? 0 : 1] = 1;
            high[k == 1 ? 0 : 1] = 3;
        }
        all.add(low);
        all.add(high);
        return all;
    }

    private boolean isOfTwoOwners() {
        return call.equals("plan") || call.equals("buy") || call.equals("pluck");
    }

    private void outside(int k, int[] others, String untouched) throws ReflectiveOperationException {
        int[] wrong = {least[k] - 1, least[k] - 2, least[k] - 256, least[k] - 65536, Integer.MIN_VALUE, most[k] + 1,
            most[k] + 2, most[k] + 256, most[k] + 65536, Integer.MAX_VALUE};
        for (int value : wrong) {
            int[] numbers = others.clone();
            numbers[k] = value;
            if (isNotBad(k, value)) {
                continue;
            }
            FeatherShares x = world.make();
            Check.is(told(numbers), answer(x, call, numbers), -1);
            Check.same(told(numbers) + " changes nothing: it", Worlds.all(x), untouched);
        }
    }

    /** Below 0 cells is the machine's FAULT, SIZE; what best() is asked for are two rows of BOUNDS. */
    private boolean isNotBad(int k, int value) {
        if (call.equals("best") && k == 2) {
            return value >= 0 && value <= 2 || value == 10 || value == 11;
        }
        return call.equals("sheet") && k == 2 && value < 0;
    }

    private void inside(int k, int[] others) throws ReflectiveOperationException {
        boolean thereIsNone = false;
        for (int other = 0; other < least.length; other++) {
            thereIsNone |= most[other] < least[other];
        }
        for (int value = least[k]; value <= most[k]; value++) {
            int[] numbers = others.clone();
            numbers[k] = value;
            boolean alike = isOfTwoOwners() && numbers[0] == numbers[1];
            FeatherShares x = world.make();
            boolean bad = answer(x, call, numbers) == -1;
            Check.is(told(numbers) + " is BAD", bad ? 1 : 0, alike || thereIsNone ? 1 : 0);
        }
    }

    private String told(int[] numbers) {
        return world.name() + ": " + call + Arrays.toString(numbers);
    }

    private static void whatOfBest() {
        Check.sentence("10 and i (0, 1): its i-th TRADE");
        for (Worlds.World world : Worlds.ALL) {
            FeatherShares x = world.make();
            for (int what = -25; what <= 125; what++) {
                boolean asTold = what >= 0 && what <= 2 || what == 10 || what == 11;
                Check.is("best(0, 0, " + what + ") is BAD", x.best(0, 0, what) == -1 ? 1 : 0, asTold ? 0 : 1);
            }
        }
    }

    /** The calls without a number are text(), fault(), torn(). */
    private static void allCallsAreLookedAt() {
        Check.sentence("An object is used for at most 512 calls after it has been made");
        List<String> names = new ArrayList<>(Arrays.asList("text", "fault", "torn"));
        for (String row : BOUNDS) {
            String name = row.split(" ")[1];
            if (!names.contains(name)) {
                names.add(name);
            }
        }
        Check.is("calls that are looked at", names.size(), 45);
    }
}
