/** What all tests use: it prints every answer that is not the one that is due, and the sentence that asks for it. */
final class Check {
    private static int right = 0;
    private static int wrong = 0;
    private static String sentence = "";
    private static int answersOfSentence = 0;

    private Check() {
    }

    /** What follows is asked by this sentence of the document; one that is followed by nothing is a fault. */
    static void sentence(String quote) {
        if (!sentence.isEmpty()) {
            weigh("tests of \"" + sentence + "\"", Math.min(1, answersOfSentence), 1);
        }
        sentence = quote;
        answersOfSentence = 0;
    }

    static void is(String call, long got, long want) {
        answersOfSentence++;
        weigh(call, got, want);
    }

    private static void weigh(String call, long got, long want) {
        if (got == want) {
            right++;
        } else {
            wrong++;
            System.out.println(call + " answered " + got + ", due is " + want
                + (sentence.isEmpty() ? "" : " by \"" + sentence + "\""));
        }
    }

    static void isTrue(String what, boolean holds) {
        is(what, holds ? 1 : 0, 1);
    }

    static void same(String what, String got, String want) {
        int alike = 0;
        while (alike < got.length() && alike < want.length() && got.charAt(alike) == want.charAt(alike)) {
            alike++;
        }
        isTrue(what + " tells .." + from(got, alike) + ", due is .." + from(want, alike), got.equals(want));
    }

    private static String from(String told, int place) {
        return told.substring(Math.max(0, place - 20), Math.min(told.length(), place + 60));
    }

    /** A new object that has taken this text. */
    static FeatherShares of(String text) {
        FeatherShares x = new FeatherShares();
        tell(x, text);
        weigh("fault() of " + text, x.fault(), 0);
        return x;
    }

    /** Feeds the text and takes it: what text() answers. */
    static int tell(FeatherShares x, String text) {
        feed(x, text);
        return x.text();
    }

    static void feed(FeatherShares x, String text) {
        for (int i = 0; i < text.length(); i++) {
            weigh("feed " + i + " of " + text, x.feed(text.charAt(i)), i + 1);
        }
    }

    static void end(String test) {
        sentence("");
        System.out.println(test + ": " + right + " right, " + wrong + " wrong");
        if (wrong != 0 || right == 0) {
            System.exit(1);
        }
    }
}
