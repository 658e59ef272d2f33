/** What the document says alike of asks and of offers. */
final class VisitSentences {
    private static final int BAD = SitterCircle.BAD, FULL = SitterCircle.FULL;

    interface Call {
        int on(SitterCircle x, int f, int from, int to);
    }

    private final Promise promise;
    private final Call call;
    private final int counted;

    private VisitSentences(Promise promise, Call call, int counted) {
        this.promise = promise;
        this.call = call;
        this.counted = counted;
    }

    /** The call's visits are counted by count(counted). */
    static void test(Promise promise, Call call, int counted) {
        VisitSentences sentences = new VisitSentences(promise, call, counted);
        sentences.noSuchFamily();
        sentences.halfHours();
        sentences.noHalfHour();
        sentences.ten();
        sentences.theFirstThatFits();
        sentences.refusedLeavesAll();
    }

    private void hours(int from, int to, int want) {
        SitterCircle x = Check.circle("issue 3;", 2);
        promise.due("from " + from + " to " + to, call.on(x, 1, from, to), want);
        promise.due("count then", x.count(counted), want == 0 ? 1 : 0);
        promise.due("count of the others", x.count(7 - counted), 0);
    }

    private void noSuchFamily() {
        promise.says("BAD: there is no such FAMILY");
        for (int came : new int[] {0, 1, 5, 12}) {
            for (int f : new int[] {Integer.MIN_VALUE, -1, 0, came - 1, came, came + 1, 12, Integer.MAX_VALUE}) {
                SitterCircle x = Check.circle("issue 3;", came);
                boolean isThere = f >= 0 && f < came;
                promise.due("of family " + f + " of " + came, call.on(x, f, 0, 1), isThere ? 0 : BAD);
                promise.due("count then", x.count(counted), isThere ? 1 : 0);
            }
        }
        SitterCircle y = Check.circle("issue 3;", 3);
        y.leave(1);
        promise.due("of one that left", call.on(y, 1, 0, 1), BAD);
        promise.due("of the one behind it", call.on(y, 2, 0, 1), 0);
    }

    private void halfHours() {
        promise.says("from a half hour up to another one (0 to 48)");
        hours(-1, 1, BAD);
        hours(0, 1, 0);
        hours(1, 2, 0);
        hours(46, 47, 0);
        hours(47, 48, 0);
        hours(47, 49, BAD);
        hours(48, 49, BAD);
        hours(0, 47, 0);
        hours(0, 48, 0);
        hours(0, 49, BAD);
        hours(-1, 48, BAD);
        hours(-1, 49, BAD);
        hours(Integer.MIN_VALUE, 48, BAD);
        hours(0, Integer.MAX_VALUE, BAD);
        hours(Integer.MIN_VALUE, Integer.MAX_VALUE, BAD);
    }

    private void noHalfHour() {
        promise.says("BAD: also no half hour");
        for (int hour : new int[] {0, 1, 24, 47, 48}) {
            hours(hour, hour, BAD);
            hours(hour, hour - 1, BAD);
            hours(hour, hour + 1, hour < 48 ? 0 : BAD);
        }
        hours(48, 0, BAD);
        hours(47, Integer.MIN_VALUE, BAD);
        hours(Integer.MAX_VALUE, Integer.MIN_VALUE, BAD);
        hours(Integer.MAX_VALUE, Integer.MAX_VALUE, BAD);
    }

    private void ten() {
        promise.says("(10): its number; FULL");
        SitterCircle x = Check.circle("issue 3;", 2);
        for (int i = 0; i < 10; i++) {
            promise.due("number " + i, call.on(x, i % 2, i, i + 2), i);
            promise.due("count", x.count(counted), i + 1);
        }
        promise.due("the eleventh", call.on(x, 0, 0, 1), FULL);
        promise.due("the eleventh again", call.on(x, 1, 0, 1), FULL);
        promise.due("count", x.count(counted), 10);
        promise.due("count of the others", x.count(7 - counted), 0);
        x.evening();
        promise.due("on the next evening", call.on(x, 0, 0, 1), 0);
    }

    private void theFirstThatFits() {
        promise.says("BAD; FULL: the first that fits");
        SitterCircle x = Circles.full();
        promise.due("no half hour", call.on(x, 0, 5, 5), BAD);
        promise.due("beyond 48", call.on(x, 0, 5, 49), BAD);
        promise.due("below 0", call.on(x, 0, -1, 5), BAD);
        promise.due("of one that left", call.on(x, 11, 0, 1), BAD);
        promise.due("of family 12", call.on(x, 12, 0, 1), BAD);
        promise.due("a fine one", call.on(x, 0, 0, 1), FULL);
    }

    private void refusedLeavesAll() {
        promise.says("what is refused changes nothing");
        int[][] wrong = {{3, 0, 1}, {5, 0, 1}, {-1, 0, 1}, {1, -1, 1}, {1, 0, 49}, {1, 7, 7}, {1, 8, 7}};
        for (int[] w : wrong) {
            promise.refuses("(" + w[0] + ", " + w[1] + ", " + w[2] + ")", Circles::busy,
                    x -> call.on(x, w[0], w[1], w[2]), BAD);
        }
        promise.refuses("the eleventh", Circles::full, x -> call.on(x, 0, 0, 48), FULL);
    }
}
