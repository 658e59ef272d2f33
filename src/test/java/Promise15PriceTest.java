/** Promise 15: price. */
public final class Promise15PriceTest {
    private static final int BAD = SitterCircle.BAD;

    private static final Promise promise = new Promise(15, "price");

    public static void main(String[] args) {
        noSuchAsk();
        howManyTheseAre();
        thoseFromDoubleOnTwice();
        doubleAtItsBounds();
        byTheTextThatCounts();
        changesNothing();
        promise.finish();
    }

    private static void due(String call, long got, long want) {
        promise.due(call, got, want);
    }

    private static int priceOf(String text, int from, int to) {
        SitterCircle x = Check.circle(text, 1);
        x.ask(0, from, to);
        return x.price(0);
    }

    private static void noSuchAsk() {
        promise.says("The PRICE of an ASK. BAD");
        for (int asks : new int[] {0, 1, 9, 10}) {
            SitterCircle x = Check.circle("", 1);
            for (int i = 0; i < asks; i++) {
                x.ask(0, 0, i + 1);
                x.offer(0, 0, 48);
            }
            for (int ask : new int[] {Integer.MIN_VALUE, -1, 0, asks - 1, asks, asks + 1, 10, Integer.MAX_VALUE}) {
                boolean isThere = ask >= 0 && ask < asks;
                due("price(" + ask + ") of " + asks, x.price(ask), isThere ? ask + 1 : BAD);
            }
        }
        SitterCircle y = Check.circle("", 1);
        y.offer(0, 0, 1);
        due("an offer is no ask", y.price(0), BAD);
        y.ask(0, 0, 2);
        y.ask(0, 0, 3);
        y.broken(0);
        due("price(0) of the one behind", y.price(0), 3);
        due("price(1) is gone", y.price(1), BAD);
        y.evening();
        due("price(0) after the evening", y.price(0), BAD);
    }

    private static void howManyTheseAre() {
        promise.says("its PRICE is how many these are");
        int[][] hours = {{0, 1}, {0, 2}, {47, 48}, {46, 48}, {0, 47}, {1, 48}, {0, 48}, {24, 25}};
        for (int[] h : hours) {
            due("from " + h[0] + " to " + h[1], priceOf("", h[0], h[1]), h[1] - h[0]);
            due("without double", priceOf("late 5;", h[0], h[1]), h[1] - h[0]);
        }
    }

    private static void thoseFromDoubleOnTwice() {
        promise.says("those from double on twice");
        due("up to the one before", priceOf("double 20;", 18, 19), 1);
        due("the one before", priceOf("double 20;", 19, 20), 1);
        due("that one", priceOf("double 20;", 20, 21), 2);
        due("the one behind", priceOf("double 20;", 21, 22), 2);
        due("one on each side", priceOf("double 20;", 19, 21), 3);
        due("five and three", priceOf("double 20;", 15, 23), 11);
        due("up to it", priceOf("double 20;", 10, 20), 10);
        due("from it on", priceOf("double 20;", 20, 30), 20);
        due("far behind", priceOf("double 20;", 40, 48), 16);
        due("far before", priceOf("double 20;", 0, 8), 8);
    }

    private static void doubleAtItsBounds() {
        promise.says("double 0 to 47");
        due("double 0, the first", priceOf("double 0;", 0, 1), 2);
        due("double 0, all", priceOf("double 0;", 0, 48), 96);
        due("double 1, the first", priceOf("double 1;", 0, 1), 1);
        due("double 1, all", priceOf("double 1;", 0, 48), 95);
        due("double 46, all", priceOf("double 46;", 0, 48), 50);
        due("double 47, all", priceOf("double 47;", 0, 48), 49);
        due("double 47, the last", priceOf("double 47;", 47, 48), 2);
        due("double 47, the one before", priceOf("double 47;", 46, 47), 1);
        due("no double, the last", priceOf("", 47, 48), 1);
    }

    private static void byTheTextThatCounts() {
        promise.says("of a DAY the one counts that was voted from the latest DAY not behind it");
        SitterCircle x = Check.circle("double 10;", 1);
        x.ask(0, 8, 12);
        due("by text 0", x.price(0), 6);
        Check.write(x, "double 11;").vote(1);
        due("text 1 is of the next day", x.price(0), 6);
        Check.write(x, "double 9;").vote(0);
        due("text 2 is of today", x.price(0), 7);
        Check.write(x, "late 1;").vote(0);
        due("text 3 tells no double", x.price(0), 4);
        x.evening();
        x.go(1);
        x.ask(0, 8, 12);
        due("text 1 on its day", x.price(0), 5);
    }

    private static void changesNothing() {
        promise.says("what is refused changes nothing");
        for (int ask : new int[] {Integer.MIN_VALUE, -1, 3, 10, Integer.MAX_VALUE}) {
            promise.refuses("price(" + ask + ")", Circles::busy, x -> x.price(ask), BAD);
        }
        promise.same("price(2)", Circles::busy, x -> x.price(2), x -> 0);
    }
}
