import java.util.function.ToLongFunction;

/** What is refused by STATE, FULL, NONE or a FAULT changes nothing (BAD: see BoundsTest); nor does what only tells. */
public final class RefusedTest {
    private static final int BAD = FeatherShares.BAD, STATE = FeatherShares.STATE;
    private static final int FULL = FeatherShares.FULL, NONE = FeatherShares.NONE;
    private static final Worlds.World ORDINARY = Worlds.ALL[0], FILLED = Worlds.ALL[3], POOR = Worlds.ALL[4], NEW = Worlds.ALL[5];

    public static void main(String[] args) {
        byFull();
        byState();
        byNone();
        byTheMachine();
        byBuy();
        byAText();
        byWhatOnlyTells();
        Check.end("RefusedTest");
    }

    private static void leaves(Worlds.World world, String call, ToLongFunction<FeatherShares> made, long due) {
        FeatherShares x = world.make();
        Check.is(world.name() + ": " + call, made.applyAsLong(x), due);
        Check.same(world.name() + ": behind " + call, Worlds.all(x), Worlds.all(world.make()));
    }

    private static void byFull() {
        Check.sentence("what is refused changes nothing (but THE TAPE, as told)");
        leaves(FILLED, "feed", x -> x.feed('y'), FULL);
        leaves(FILLED, "plan", x -> x.plan(0, 1, 2, 3), FULL);
        leaves(FILLED, "weeks(1)", x -> x.weeks(1), FULL);
        leaves(FILLED, "weeks(30)", x -> x.weeks(30), FULL);
        leaves(FILLED, "see", x -> x.see(0, 1, 2, 3), FULL);
        leaves(ORDINARY, "weeks that are BAD", x -> x.weeks(31), BAD);
    }

    private static void byState() {
        Check.sentence("STATE -2 (as told)");
        leaves(POOR, "buy", x -> x.buy(0, 1, 2, 3), STATE);
        leaves(POOR, "pluck", x -> x.pluck(0, 1, 2, 3), STATE);
        leaves(FILLED, "buy", x -> x.buy(0, 1, 2, 3), STATE);
        leaves(FILLED, "pluck", x -> x.pluck(0, 1, 2, 3), STATE);
        leaves(NEW, "back(0)", x -> x.back(0), STATE);
        leaves(NEW, "back(1)", x -> x.back(1), STATE);
        leaves(ORDINARY, "back(1), where there is image 0", x -> x.back(1), STATE);
        leaves(NEW, "drift", x -> x.drift(1, 60, 0), STATE);
        leaves(FILLED, "need", x -> x.need(0, 0, 0), STATE);
    }

    private static void byNone() {
        Check.sentence("NONE -4 (there is none)");
        leaves(POOR, "goose(0, 4)", x -> x.goose(0, 4), NONE);
        leaves(POOR, "runs(1)", x -> x.runs(1), NONE);
        leaves(POOR, "turn", x -> x.turn(0), NONE);
        leaves(FILLED, "bare", x -> x.bare(0, 0), NONE);
        leaves(POOR, "need", x -> x.need(0, 0, 0), NONE);
        leaves(POOR, "best", x -> x.best(0, 2, 11), NONE);
        leaves(FILLED, "leave", x -> x.leave(0, 0), NONE);
        leaves(FILLED, "reign", x -> x.reign(0, 0), NONE);
        leaves(POOR, "look", x -> x.look(0, 0), NONE);
        leaves(NEW, "count(3)", x -> x.count(3), NONE);
    }

    private static void byTheMachine() {
        Check.sentence("A FAULT is what the machine finds: 1 NULL (nothing), 2 INDEX, 3 CAST (another lane), 4 SIZE (below 0).");
        leaves(ORDINARY, "sheet of -1", x -> x.sheet(0, 1, -1), -14);
        leaves(ORDINARY, "sheet of -1 of nothing", x -> x.sheet(3, 1, -1), -14);
        leaves(ORDINARY, "lay of nothing", x -> x.lay(3, 0, 1), -11);
        leaves(ORDINARY, "lay behind the last", x -> x.lay(0, 9, 1), -12);
        leaves(ORDINARY, "lay ahead of the first", x -> x.lay(0, -1, 1), -12);
        FeatherShares x = ORDINARY.make();
        String before = Worlds.visible(x).replace(" r0", "");
        Check.is("NULL", x.read(3, 0, 0, 9), 0);
        Check.is("CAST", x.read(0, 0, 0, 9), 0);
        Check.is("INDEX", x.read(0, 1, 6, 9), 0);
        Check.same("but torn()", Worlds.visible(x).replace(" r2", ""), before);
    }

    private static void byBuy() {
        Check.sentence("is refused by buy() (in whichever way): then none came");
        leaves(ORDINARY, "read of which the third is 1 of 1", x -> {
            x.lay(2, 7, 1);
            return x.read(2, 2, 0, 2);
        }, -21);
        leaves(ORDINARY, "read of which the first is BAD", x -> x.read(0, 1, 1, 1), -20);
        leaves(FILLED, "read of what can not be", x -> x.read(3, 0, 0, 1), -20);
    }

    /** The tape is empty and the fault is told: the rest of both is alike when both have had a fault. */
    private static void byAText() {
        Check.sentence("by a FAULT, too");
        for (Worlds.World world : Worlds.ALL) {
            FeatherShares x = world.make();
            x.end(0);
            String before = Worlds.visible(x);
            Check.is("text", Check.tell(x, "drake 4 9;share 0 2 7;money 1 0;trade 0 1 0 1;oh"), -10 - 46);
            Check.same("but fault()", Worlds.visible(x).replace(" f2", " f0"), before);
            Check.is("an empty tape", x.count(2), 0);
            FeatherShares twin = world.make();
            twin.end(0);
            Check.tell(twin, "oh");
            Check.same("the hidden, too", Worlds.all(x), Worlds.all(twin));
        }
    }

    private static void byWhatOnlyTells() {
        Check.sentence("BY WEEKS: as it would be from now on.");
        for (Worlds.World world : Worlds.ALL) {
            leaves(world, "all that only tells", x -> {
                for (int g = 0; g < 3; g++) {
                    x.later(g, 4, 60);
                    x.bare(g, 0);
                    x.turn(g);
                    x.need(0, g, 1);
                    x.swings(g, 0);
                    x.power(g, 0, 1);
                    x.reign(g, 0);
                    x.luck(5, g, 0, 8, 1);
                    x.mean(5, g, 8, 1);
                    x.kinds(g);
                    x.skins(g);
                    x.look(g, 1);
                }
                x.runs(2);
                x.ahead(0, 2);
                x.eggs(0, 60);
                x.rich(60, 1);
                x.best(4, 2, 11);
                x.leave(0, 1);
                x.drift(7, 60, 1);
                x.fault();
                x.torn();
                return 0;
            }, 0);
        }
    }
}
