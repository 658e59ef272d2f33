/** Promise 8: go. */
public final class Promise08GoTest {
    private static final int BAD = SitterCircle.BAD, STATE = SitterCircle.STATE;

    private static final Promise promise = new Promise(8, "go");

    public static void main(String[] args) {
        oneToHundred();
        notBeyondTheLastDay();
        asksAndOffers();
        theFirstThatFits();
        refusedLeavesAll();
        moreThanExpireDaysOld();
        eachDayByItsOwnRule();
        theRulesOfTheDay();
        promise.finish();
    }

    private static void due(String call, long got, long want) {
        promise.due(call, got, want);
    }

    private static void oneToHundred() {
        promise.says("n DAYS (1 to 100) go by: the DAY then. BAD");
        for (int n : new int[] {1, 2, 50, 99, 100}) {
            SitterCircle x = new SitterCircle();
            due("go(" + n + ")", x.go(n), n);
            due("count(2)", x.count(2), n);
            due("go(" + n + ") again", x.go(n), 2 * n);
        }
        for (int n : new int[] {Integer.MIN_VALUE, -100, -1, 0, 101, 102, 2000, Integer.MAX_VALUE}) {
            SitterCircle x = Circles.onDay(new SitterCircle(), 50);
            due("go(" + n + ")", x.go(n), BAD);
            due("count(2)", x.count(2), 50);
        }
    }

    private static void notBeyondTheLastDay() {
        promise.says("STATE: beyond 2000");
        for (int now : new int[] {1899, 1900, 1901, 1950, 1999, 2000}) {
            int left = 2000 - now;
            for (int n : new int[] {left - 1, left, left + 1}) {
                SitterCircle x = Circles.onDay(new SitterCircle(), now);
                int due = n < 1 || n > 100 ? BAD : n > left ? STATE : now + n;
                due("go(" + n + ") on day " + now, x.go(n), due);
                due("count(2)", x.count(2), due < 0 ? now : now + n);
            }
        }
        SitterCircle last = Circles.onDay(new SitterCircle(), 2000);
        due("go(1) on day 2000", last.go(1), STATE);
        due("go(100) on day 2000", last.go(100), STATE);
        due("go(101) on day 2000", last.go(101), BAD);
    }

    private static void asksAndOffers() {
        promise.says("STATE: or there are ASKS, OFFERS");
        SitterCircle x = Check.circle("issue 3;", 2);
        due("with none", x.go(1), 1);
        x.ask(0, 0, 1);
        due("with an ask", x.go(1), STATE);
        x.broken(0);
        due("with none again", x.go(1), 2);
        x.offer(1, 0, 1);
        due("with an offer", x.go(1), STATE);
        x.ask(0, 0, 1);
        due("with both", x.go(1), STATE);
        x.evening();
        due("after the evening", x.go(1), 3);
    }

    private static void theFirstThatFits() {
        promise.says("BAD; STATE: the first that fits");
        SitterCircle x = Circles.busy();
        due("go(0) with asks", x.go(0), BAD);
        due("go(101) with asks", x.go(101), BAD);
        due("go(1) with asks", x.go(1), STATE);
        due("go(100) with asks", x.go(100), STATE);
    }

    private static void refusedLeavesAll() {
        promise.says("what is refused changes nothing");
        for (int n : new int[] {Integer.MIN_VALUE, 0, 101, Integer.MAX_VALUE}) {
            promise.refuses("go(" + n + ")", () -> withoutEvening(), x -> x.go(n), BAD);
        }
        promise.refuses("go(1) with asks and offers", Circles::busy, x -> x.go(1), STATE);
        promise.refuses("go(100) with asks and offers", Circles::full, x -> x.go(100), STATE);
        // those voted expire a day later, were it to begin
        promise.refuses("go(2) on day 1999", () -> {
            SitterCircle x = Circles.onDay(new SitterCircle(), 1998);
            Check.write(x, "issue 4; expire 1;").vote(1998);
            x.join();
            x.go(1);
            return x;
        }, x -> x.go(2), STATE);
    }

    private static SitterCircle withoutEvening() {
        SitterCircle x = Circles.busy();
        x.evening();
        return x;
    }

    private static void moreThanExpireDaysOld() {
        promise.says("when a DAY begins, all are gone that are more than expire DAYS old");
        for (int expire : new int[] {1, 2, 50, 399, 400}) {
            SitterCircle x = Check.circle("issue 4; expire " + expire + ";", 1);
            Circles.onDay(x, expire - 1);
            due("a day less than " + expire, x.told(0, 0), 4);
            x.go(1);
            due("just " + expire, x.told(0, 0), 4);
            due("expired", x.count(8), 0);
            x.go(1);
            due("a day more than " + expire, x.told(0, 0), 0);
            due("expired then", x.count(8), 4);
            due("all have", x.count(5), 0);
        }
        SitterCircle never = Circles.onDay(Check.circle("issue 4;", 1), 2000);
        due("nothing expires without expire", never.told(0, 0), 4);
        SitterCircle many = Check.circle("issue 1; expire 3;", 2);
        many.go(1);
        many.join();
        many.go(2);
        due("day 3", many.count(5), 3);
        many.go(1);
        due("day 4: those of day 0", many.count(8), 2);
        many.go(1);
        due("day 5: that of day 1", many.count(8), 3);
    }

    private static void eachDayByItsOwnRule() {
        promise.says("n DAYS go by: each begins");
        // expire counts on day 5 alone
        for (int n = 4; n <= 6; n++) {
            SitterCircle x = Check.circle("issue 4;", 1);
            Check.write(x, "expire 2;").vote(5);
            Check.write(x, "late 1;").vote(6);
            due("go(" + n + ")", x.go(n), n);
            due("expired", x.count(8), n >= 5 ? 4 : 0);
        }
        // the day it begins to count is the first one, and the last one that is gone to
        SitterCircle y = Check.circle("issue 4;", 1);
        Check.write(y, "expire 1;").vote(100);
        due("go(99)", y.go(99), 99);
        due("expired", y.count(8), 0);
        due("go(1)", y.go(1), 100);
        due("expired then", y.count(8), 4);
        SitterCircle z = Check.circle("issue 4;", 1);
        Check.write(z, "expire 1;").vote(100);
        due("go(100)", z.go(100), 100);
        due("expired at once", z.count(8), 4);
    }

    private static void theRulesOfTheDay() {
        promise.says("the DAY then");
        SitterCircle x = Check.circle("issue 1;", 0);
        Check.write(x, "issue 2;").vote(3);
        x.go(2);
        x.join();
        due("issued on day 2", x.told(0, 0), 1);
        due("of day 2", x.told(0, 2), 2);
        x.go(1);
        x.join();
        due("issued on day 3", x.told(1, 0), 2);
        due("of day 3", x.told(1, 2), 3);
    }
}
