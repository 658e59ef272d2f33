/** Promise 17: met. */
public final class Promise17MetTest {
    private static final Promise promise = new Promise(17, "met");

    public static void main(String[] args) {
        noPairs();
        eachInOneAtMost();
        theMostPairs();
        tenPairs();
        byTheDebtThatCounts();
        changesNothing();
        promise.finish();
    }

    private static void due(String call, long got, long want) {
        promise.due(call, got, want);
    }

    private static void noPairs() {
        promise.says("How many pairs THE MATCH has: none");
        SitterCircle x = Check.circle("issue 9;", 2);
        due("nothing", x.met(), 0);
        x.ask(0, 0, 1);
        due("an ask alone", x.met(), 0);
        x.offer(0, 0, 1);
        due("an offer of the same family", x.met(), 0);
        x.offer(1, 0, 1);
        due("an offer that fits", x.met(), 1);
        x.broken(0);
        due("offers alone", x.met(), 0);
        due("nothing fits", Circles.grid(3, 0, 0, 0).met(), 0);
    }

    private static void eachInOneAtMost() {
        promise.says("each ASK, OFFER in one at most");
        due("one ask, three offers", Circles.grid(3, 7).met(), 1);
        due("three asks, one offer", Circles.grid(1, 1, 1, 1).met(), 1);
        due("three asks that fit the same two", Circles.grid(3, 3, 3, 3).met(), 2);
        due("two asks, three offers", Circles.grid(3, 7, 7).met(), 2);
        due("three and three", Circles.grid(3, 7, 7, 7).met(), 3);
    }

    private static void theMostPairs() {
        promise.says("of those with the most pairs");
        due("0 gives way", Circles.grid(2, 3, 1).met(), 2);
        due("0 and 1 give way", Circles.grid(3, 3, 6, 1).met(), 3);
        due("a chain of five", Circles.grid(5, 3, 6, 12, 24, 1).met(), 5);
        due("a chain of six", Circles.grid(6, 3, 6, 12, 24, 48, 1).met(), 6);
        due("the last one's is taken and can not give way", Circles.grid(5, 1, 6, 12, 24, 1).met(), 4);
    }

    private static void tenPairs() {
        promise.says("ASKS (10), OFFERS (10)");
        for (int n = 8; n <= 10; n++) {
            for (int m = 8; m <= 10; m++) {
                SitterCircle x = Check.circle("issue 9;", 2);
                for (int i = 0; i < n; i++) {
                    x.ask(0, 0, 1);
                }
                for (int i = 0; i < m; i++) {
                    x.offer(1, 0, 1);
                }
                due(n + " asks, " + m + " offers", x.met(), Math.min(n, m));
            }
        }
        // ask i fits the offers i and i + 1, the last ask only offer 0: each one has to move
        SitterCircle y = Check.circle("issue 48;", 2);
        for (int i = 0; i < 9; i++) {
            y.ask(0, 2 * i + 2, 2 * i + 3);
        }
        y.ask(0, 0, 1);
        for (int i = 0; i < 9; i++) {
            y.offer(1, 2 * i, 2 * i + 3);
        }
        y.offer(1, 18, 19);
        due("a chain of ten", y.met(), 10);
        due("sitter(0)", y.sitter(0), 1);
        due("sitter(8)", y.sitter(8), 9);
        due("sitter(9)", y.sitter(9), 0);
    }

    private static void byTheDebtThatCounts() {
        promise.says("the ASK's FAMILY may PAY its PRICE");
        SitterCircle x = Check.circle("issue 2; debt 1;", 3);
        x.ask(0, 0, 3);
        x.ask(1, 0, 4);
        x.offer(2, 0, 48);
        x.offer(2, 0, 48);
        due("debt 1", x.met(), 1);
        Check.write(x, "debt 2;").vote(1);
        due("debt 2 from tomorrow on", x.met(), 1);
        Check.write(x, "debt 2;").vote(0);
        due("debt 2", x.met(), 2);
        Check.write(x, "debt 0;").vote(0);
        due("debt 0", x.met(), 0);
    }

    private static void changesNothing() {
        promise.says("met(): only told");
        promise.same("met()", Circles::busy, SitterCircle::met, x -> 0);
        promise.same("met() when all is full", Circles::full, SitterCircle::met, x -> 0);
    }
}
