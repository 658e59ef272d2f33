/** Promise 13: ask. */
public final class Promise13AskTest {
    private static final Promise promise = new Promise(13, "ask");

    public static void main(String[] args) {
        VisitSentences.test(promise, SitterCircle::ask, 3);
        ordinary();
        promise.finish();
    }

    private static void ordinary() {
        promise.says("An ASK: its number");
        SitterCircle x = Check.circle("issue 3;", 2);
        promise.due("of family 1", x.ask(1, 4, 7), 0);
        promise.due("its price", x.price(0), 3);
        promise.due("the next", x.ask(0, 4, 6), 1);
        promise.due("its price", x.price(1), 2);
        promise.due("the same once more", x.ask(0, 4, 6), 2);
        x.broken(0);
        promise.due("behind one that is broken", x.ask(1, 0, 1), 2);
        promise.due("its price", x.price(2), 1);
        x.evening();
        promise.due("on the next evening", x.ask(1, 0, 1), 0);
        // to ask is free: whether it may pay is seen when it is matched
        promise.due("more than it has", x.ask(0, 0, 48), 1);
    }
}
