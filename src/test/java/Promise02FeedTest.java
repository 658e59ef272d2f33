/** Promise 2: feed. */
public final class Promise02FeedTest {
    private static final int FULL = SitterCircle.FULL;

    private static final Promise promise = new Promise(2, "feed");

    public static void main(String[] args) {
        eachFeedIsEight();
        atMostTwoHundred();
        fullLeavesAll();
        behindTheTape();
        theHighestFirst();
        allNumbersAreTaken();
        promise.finish();
    }

    private static void due(String call, long got, long want) {
        promise.due(call, got, want);
    }

    private static void eachFeedIsEight() {
        promise.says("Eight bytes come behind THE TAPE: how many it has");
        SitterCircle x = new SitterCircle();
        for (int i = 1; i <= 25; i++) {
            due("feed " + i, x.feed(i), 8 * i);
        }
        due("feed 26", x.feed(26), FULL);
    }

    private static void atMostTwoHundred() {
        promise.says("FULL: more than 200");
        for (int length = 184; length <= 200; length++) {
            SitterCircle x = Circles.filled(new SitterCircle(), "", length);
            due("feed onto " + length, x.feed(0), length <= 192 ? length + 8 : FULL);
            due("its length then", x.end(0), length <= 192 ? length + 8 : length);
        }
    }

    private static void fullLeavesAll() {
        promise.says("what is refused changes nothing");
        long semicolons = 0x3b3b3b3b3b3b3b3bL;
        for (int length = 193; length <= 200; length++) {
            int had = length;
            promise.refuses("feed onto " + had, () -> Circles.filled(new SitterCircle(), "issue 3;", had),
                    x -> x.feed(semicolons), FULL);
            SitterCircle x = Circles.filled(new SitterCircle(), "issue 3;", had);
            x.feed(semicolons);
            due("the tape of " + had + " is voted", x.vote(0), 0);
            due("and counts", x.rule(0, 0), 3);
        }
        promise.refuses("feed onto a full tape", Circles::full, x -> x.feed(semicolons), FULL);
    }

    private static void behindTheTape() {
        promise.says("Eight bytes come behind THE TAPE");
        for (int kept = 0; kept < 8; kept++) {
            SitterCircle x = Circles.filled(new SitterCircle(), "", kept);
            // "late 31;"
            due("feed behind " + kept, x.feed(0x6c6174652033313bL), kept + 8);
            due("feed behind that", x.feed(0x2020202020202020L), kept + 16);
            due("vote", x.vote(0), 0);
            due("rule(0, 3)", x.rule(0, 3), 31);
        }
        SitterCircle y = Circles.filled(new SitterCircle(), "late 4;", 192);
        // " debt 9;"
        due("the last eight", y.feed(0x206465627420393bL), 200);
        due("vote of 200", y.vote(0), 0);
        due("rule(0, 4): the last eight count", y.rule(0, 4), 9);
    }

    private static void theHighestFirst() {
        promise.says("the highest first");
        SitterCircle x = new SitterCircle();
        x.feed(0x6465627420373b20L);
        due("vote \"debt 7; \"", x.vote(0), 0);
        due("rule(0, 4)", x.rule(0, 4), 7);
        x.feed(0x203b372074626564L);
        due("vote it backwards", x.vote(0), -11);
        for (int place = 0; place < 8; place++) {
            x.feed(0x2020202020202020L ^ 0x1fL << 56 - 8 * place);
            due("a byte that is none at place " + place, x.vote(0), -10 - place);
            due("fault()", x.fault(), 1);
        }
    }

    private static void allNumbersAreTaken() {
        promise.says("feed(long v): any v is eight bytes");
        long[] all = {0, 1, -1, Long.MIN_VALUE, Long.MAX_VALUE, 0x8080808080808080L, 0x00ff00ff00ff00ffL};
        for (long v : all) {
            SitterCircle x = new SitterCircle();
            due("feed(" + v + ")", x.feed(v), 8);
            due("again", x.feed(v), 16);
            due("vote", x.vote(0), -10);
            due("fault()", x.fault(), 1);
        }
    }
}
