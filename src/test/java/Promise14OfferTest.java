/** Promise 14: offer. */
public final class Promise14OfferTest {
    private static final Promise promise = new Promise(14, "offer");

    public static void main(String[] args) {
        VisitSentences.test(promise, SitterCircle::offer, 4);
        ordinary();
        promise.finish();
    }

    private static void ordinary() {
        promise.says("An OFFER: its number");
        SitterCircle x = Check.circle("issue 9;", 2);
        x.ask(0, 4, 7);
        promise.due("of family 1", x.offer(1, 4, 7), 0);
        promise.due("fits(0, 0)", x.fits(0, 0), 1);
        promise.due("too short", x.offer(1, 4, 6), 1);
        promise.due("fits(0, 1)", x.fits(0, 1), 0);
        promise.due("the first once more", x.offer(1, 4, 7), 2);
        promise.due("fits(0, 2)", x.fits(0, 2), 1);
        x.broken(0);
        promise.due("behind an ask that is broken", x.offer(1, 0, 1), 3);
        x.evening();
        promise.due("on the next evening", x.offer(1, 0, 1), 0);
    }
}
