/** What all tests use: it prints every answer that is not the one that is due. */
final class Check {
    private static int right = 0;
    private static int wrong = 0;

    private Check() {
    }

    static void is(String call, long got, long want) {
        if (got == want) {
            right++;
        } else {
            wrong++;
            System.out.println(call + " answered " + got + ", due is " + want);
        }
    }

    static void isTrue(String what, boolean holds) {
        is(what, holds ? 1 : 0, 1);
    }

    /** A new object that has taken this text. */
    static FeatherShares of(String text) {
        FeatherShares x = new FeatherShares();
        tell(x, text);
        is("fault() of " + text, x.fault(), 0);
        return x;
    }

    /** Feeds the text and takes it: what text() answers. */
    static int tell(FeatherShares x, String text) {
        for (int i = 0; i < text.length(); i++) {
            is("feed " + i + " of " + text, x.feed(text.charAt(i)), i + 1);
        }
        return x.text();
    }

    static void end(String test) {
        System.out.println(test + ": " + right + " right, " + wrong + " wrong");
        if (wrong != 0 || right == 0) {
            System.exit(1);
        }
    }
}
