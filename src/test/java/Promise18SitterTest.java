/** Promise 18: sitter. */
public final class Promise18SitterTest {
    private static final int BAD = SitterCircle.BAD, NONE = SitterCircle.NONE;

    private static final Promise promise = new Promise(18, "sitter");

    public static void main(String[] args) {
        noSuchAsk();
        none();
        theFirstThatFits();
        theLeastOffer();
        ratherAnyThanNone();
        mostPairsComeFirst();
        thenAskOne();
        changesNothing();
        promise.finish();
    }

    private static void due(String call, long got, long want) {
        promise.due(call, got, want);
    }

    private static void sitters(String name, SitterCircle x, int... want) {
        for (int ask = 0; ask < want.length; ask++) {
            due(name + ": sitter(" + ask + ")", x.sitter(ask), want[ask]);
        }
        due(name + ": the ask behind", x.sitter(want.length), BAD);
    }

    private static void noSuchAsk() {
        promise.says("The OFFER of an ASK in THE MATCH. BAD");
        for (int asks : new int[] {0, 1, 9, 10}) {
            SitterCircle x = Check.circle("issue 9;", 2);
            for (int i = 0; i < asks; i++) {
                x.ask(0, 0, 1);
            }
            for (int i = 0; i < 10; i++) {
                x.offer(1, 0, 1);
            }
            for (int ask : new int[] {Integer.MIN_VALUE, -1, 0, asks - 1, asks, asks + 1, 10, Integer.MAX_VALUE}) {
                boolean isThere = ask >= 0 && ask < asks;
                due("sitter(" + ask + ") of " + asks, x.sitter(ask), isThere ? ask : BAD);
            }
        }
    }

    private static void none() {
        promise.says("NONE");
        SitterCircle x = Check.circle("issue 9;", 2);
        x.ask(0, 0, 1);
        due("no offers", x.sitter(0), NONE);
        x.offer(1, 1, 2);
        due("none that fits", x.sitter(0), NONE);
        x.offer(1, 0, 2);
        due("one that fits", x.sitter(0), 1);
        x.ask(0, 0, 2);
        due("taken", x.sitter(1), NONE);
        due("by the one before", x.sitter(0), 1);
    }

    private static void theFirstThatFits() {
        promise.says("BAD; NONE: the first that fits");
        SitterCircle x = Circles.grid(1, 0, 1);
        due("sitter(-1)", x.sitter(-1), BAD);
        due("sitter(0)", x.sitter(0), NONE);
        due("sitter(1)", x.sitter(1), 0);
        due("sitter(2)", x.sitter(2), BAD);
    }

    private static void theLeastOffer() {
        promise.says("the one in which ASK 0 has the least OFFER");
        sitters("of three", Circles.grid(3, 7), 0);
        sitters("of the last two", Circles.grid(3, 6), 1);
        sitters("the last one", Circles.grid(3, 4), 2);
        sitters("of ten", Circles.grid(10, 1023), 0);
        sitters("the tenth", Circles.grid(10, 512), 9);
        sitters("the ninth or the tenth", Circles.grid(10, 768), 8);
        sitters("0 first", Circles.grid(2, 3, 3), 0, 1);
        sitters("0 keeps 1, though 0 were free for it", Circles.grid(3, 6, 6, 1), 1, 2, 0);
    }

    private static void ratherAnyThanNone() {
        promise.says("(rather any than none)");
        sitters("0 has it", Circles.grid(1, 1, 1), 0, NONE);
        sitters("0 has the last one", Circles.grid(3, 4, 4, 4), 2, NONE, NONE);
        sitters("0 and 1, not 2", Circles.grid(2, 3, 3, 3), 0, 1, NONE);
        sitters("0 has 1 rather than none", Circles.grid(2, 2, 3, 3), 1, 0, NONE);
        sitters("1 goes without", Circles.grid(3, 1, 1, 6, 6), 0, NONE, 1, 2);
    }

    private static void mostPairsComeFirst() {
        promise.says("of those with the most pairs");
        sitters("0 leaves offer 0 to 1", Circles.grid(2, 3, 1), 1, 0);
        sitters("a chain", Circles.grid(4, 3, 6, 12, 1), 1, 2, 3, 0);
        sitters("no pair is gained", Circles.grid(2, 1, 1, 2), 0, NONE, 1);
        sitters("2 goes without", Circles.grid(2, 1, 3, 2), 0, 1, NONE);
    }

    private static void thenAskOne() {
        promise.says("then ASK 1, and so on");
        sitters("1 has the least that is left", Circles.grid(4, 1, 14, 14), 0, 1, 2);
        sitters("1 leaves 1 to 2", Circles.grid(4, 1, 14, 2), 0, 2, 1);
        sitters("2 leaves 2 to 3", Circles.grid(4, 1, 2, 12, 4), 0, 1, 3, 2);
        sitters("three and three", Circles.grid(3, 7, 7, 7), 0, 1, 2);
        sitters("1 has none at all", Circles.grid(2, 1, 0, 3), 0, NONE, 1);
        sitters("0 has none at all", Circles.grid(2, 0, 3, 3), NONE, 0, 1);
    }

    private static void changesNothing() {
        promise.says("what is refused changes nothing");
        for (int ask : new int[] {Integer.MIN_VALUE, -1, 3, 10, Integer.MAX_VALUE}) {
            promise.refuses("sitter(" + ask + ")", Circles::busy, x -> x.sitter(ask), BAD);
        }
        promise.refuses("sitter(1)", Circles::busy, x -> x.sitter(1), NONE);
        promise.same("sitter(0)", Circles::busy, x -> x.sitter(0), x -> 0);
    }
}
