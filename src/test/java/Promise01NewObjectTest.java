/** Promise 1: a new object. */
public final class Promise01NewObjectTest {
    private static final int BAD = SitterCircle.BAD, NONE = SitterCircle.NONE;
    private static final int[] EXTREMES = {Integer.MIN_VALUE, -1, 1, Integer.MAX_VALUE};

    private static final Promise promise = new Promise(1, "a new object");

    public static void main(String[] args) {
        dayZero();
        noFamilies();
        noTexts();
        sheetsOfNothing();
        anEmptyTape();
        noEvening();
        nothingIsShared();
        fiveHundredAndTwelveCalls();
        promise.finish();
    }

    private static void due(String call, long got, long want) {
        promise.due(call, got, want);
    }

    private static void dayZero() {
        promise.says("DAY 0");
        SitterCircle x = new SitterCircle();
        due("count(2)", x.count(2), 0);
        due("vote(-1): the day before", x.vote(-1), BAD);
        due("vote(0): now", x.vote(0), -10);
        due("go(1)", x.go(1), 1);
        due("count(2) then", x.count(2), 1);
    }

    private static void noFamilies() {
        promise.says("no FAMILIES");
        SitterCircle x = new SitterCircle();
        for (int what : new int[] {0, 5, 6, 7, 8, 9}) {
            due("count(" + what + ")", x.count(what), 0);
        }
        for (int what = 0; what < 6; what++) {
            due("told(0, " + what + ")", x.told(0, what), BAD);
        }
        due("leave(0)", x.leave(0), BAD);
        due("bar(0, 1, true)", x.bar(0, 1, true), BAD);
        due("ask(0, 0, 1)", x.ask(0, 0, 1), BAD);
        due("offer(0, 0, 1)", x.offer(0, 0, 1), BAD);
        due("join(): the first", x.join(), 0);
        due("join(): the next", x.join(), 1);
    }

    private static void noTexts() {
        promise.says("no TEXTS");
        SitterCircle x = new SitterCircle();
        due("count(1)", x.count(1), 0);
        due("unwind()", x.unwind(), NONE);
        due("fault()", x.fault(), 0);
        int[] without = {0, NONE, NONE, 0, 0, NONE};
        for (int day : new int[] {0, 1, 1999, 2000}) {
            for (int what = 0; what < 6; what++) {
                due("rule(" + day + ", " + what + ")", x.rule(day, what), without[what]);
            }
        }
        Check.write(x, "late 1;");
        due("vote(0): the first", x.vote(0), 0);
    }

    private static void sheetsOfNothing() {
        promise.says("SHEETS of nothing");
        SitterCircle x = Check.circle("", 1);
        for (int k = 0; k < 4; k++) {
            due("lay(" + k + ", 0, 0)", x.lay(k, 0, 0), -11);
            for (int lane = 0; lane < 2; lane++) {
                due("offers(" + k + ", " + lane + ", 0, 0)", x.offers(k, lane, 0, 0), -11);
                due("offers(" + k + ", " + lane + ", 0, 10)", x.offers(k, lane, 0, 10), -11);
            }
        }
        due("sheet(3, 0, 0): no cells are not nothing", x.sheet(3, 0, 0), 1);
        due("offers(3, 0, 0, 0)", x.offers(3, 0, 0, 0), 0);
    }

    private static void anEmptyTape() {
        promise.says("THE TAPE has 200 bytes, places from 0");
        SitterCircle x = new SitterCircle();
        due("end(0)", x.end(0), 0);
        for (int n : EXTREMES) {
            due("end(" + n + ")", x.end(n), BAD);
        }
        due("feed(0)", x.feed(0), 8);
    }

    private static void noEvening() {
        promise.says("AN EVENING: ASKS (10), OFFERS (10): none are there yet");
        SitterCircle x = Check.circle("", 2);
        due("count(3)", x.count(3), 0);
        due("count(4)", x.count(4), 0);
        due("price(0)", x.price(0), BAD);
        due("sitter(0)", x.sitter(0), BAD);
        due("fits(0, 0)", x.fits(0, 0), BAD);
        due("broken(0)", x.broken(0), BAD);
        due("met()", x.met(), 0);
        due("why(0)", x.why(0), 0);
        due("why(1)", x.why(1), 0);
        due("would(1000)", x.would(1000), 0);
        due("evening()", x.evening(), 0);
        due("bar(0, 1, false): nobody bars", x.bar(0, 1, false), 0);
    }

    private static void nothingIsShared() {
        promise.says("A new object");
        promise.same("made behind another one", SitterCircle::new, x -> Circles.full().count(0), x -> 0);
        promise.same("made behind two others", () -> {
            Circles.busy().evening();
            Circles.full();
            return new SitterCircle();
        }, x -> 0, x -> 0);
        Circles.full();
        SitterCircle x = new SitterCircle();
        for (int what = 0; what < 10; what++) {
            due("count(" + what + ") behind another one", x.count(what), 0);
        }
    }

    private static void fiveHundredAndTwelveCalls() {
        promise.says("An object is used for at most 512 calls");
        SitterCircle x = new SitterCircle();
        x.join();
        x.join();
        for (int call = 3; call < 512; call++) {
            x.bar(0, 1, call % 2 == 0);
        }
        due("the 512th call", x.bar(0, 1, true), 0);
        SitterCircle y = new SitterCircle();
        for (int call = 1; call < 512; call++) {
            y.sheet(call % 4, call % 2, 60);
        }
        due("the 512th call, of sheets", y.lay(3, 59, 1), 1);
    }
}
