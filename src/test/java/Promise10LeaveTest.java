/** Promise 10: leave. */
public final class Promise10LeaveTest {
    private static final int BAD = SitterCircle.BAD, STATE = SitterCircle.STATE;

    private static final Promise promise = new Promise(10, "leave");

    public static void main(String[] args) {
        noSuchFamily();
        howManyItHad();
        theyAreNoMore();
        notOneAnyMore();
        itOwes();
        hasAnAsk();
        hasAnOffer();
        refusedLeavesAll();
        promise.finish();
    }

    private static void due(String call, long got, long want) {
        promise.due(call, got, want);
    }

    private static void noSuchFamily() {
        promise.says("BAD: there is no such FAMILY");
        for (int came : new int[] {0, 1, 5, 12}) {
            for (int f : new int[] {Integer.MIN_VALUE, -1, 0, came - 1, came, came + 1, 12, Integer.MAX_VALUE}) {
                SitterCircle x = Check.circle("issue 3;", came);
                boolean isThere = f >= 0 && f < came;
                due("leave(" + f + ") of " + came, x.leave(f), isThere ? 3 : BAD);
                due("count(0)", x.count(0), isThere ? came - 1 : came);
            }
        }
        SitterCircle y = Check.circle("issue 3;", 3);
        due("leave(1)", y.leave(1), 3);
        due("leave(1) again", y.leave(1), BAD);
        due("leave(0)", y.leave(0), 3);
        due("leave(2)", y.leave(2), 3);
    }

    private static void howManyItHad() {
        promise.says("how many NOTES it had");
        for (int issue : new int[] {0, 1, 200}) {
            SitterCircle x = Check.circle("issue " + issue + ";", 1);
            due("leave(0) of issue " + issue, x.leave(0), issue);
        }
        SitterCircle y = Check.circle("issue 3; debt 5;", 2);
        Circles.sit(y, 0, 1, 4);
        due("with what it got", y.leave(1), 7);
        SitterCircle z = Check.circle("issue 3; expire 1;", 1);
        z.go(2);
        due("when all expired", z.leave(0), 0);
    }

    private static void theyAreNoMore() {
        promise.says("(they are no more)");
        SitterCircle x = Check.circle("issue 3; expire 1;", 2);
        due("count(5)", x.count(5), 6);
        due("leave(0)", x.leave(0), 3);
        due("count(5) then", x.count(5), 3);
        due("count(9)", x.count(9), 3);
        due("count(7): they came once", x.count(7), 6);
        x.go(2);
        due("count(8): they do not expire", x.count(8), 3);
        due("leave(1)", x.leave(1), 0);
        due("count(9) then", x.count(9), 3);
    }

    private static void notOneAnyMore() {
        promise.says("(it is not one any more)");
        SitterCircle x = Check.circle("issue 3;", 2);
        x.leave(1);
        for (int what = 0; what < 6; what++) {
            due("told(1, " + what + ")", x.told(1, what), BAD);
        }
        due("bar(1, 0, true)", x.bar(1, 0, true), BAD);
        due("bar(0, 1, true)", x.bar(0, 1, true), BAD);
        due("ask(1, 0, 1)", x.ask(1, 0, 1), BAD);
        due("offer(1, 0, 1)", x.offer(1, 0, 1), BAD);
        due("leave(1)", x.leave(1), BAD);
        Circles.row(x, 0, 1, 1, 0, 1);
        due("offers of it", x.offers(0, 1, 0, 1), -21);
        due("the other one is", x.told(0, 0), 3);
        due("count(0)", x.count(0), 1);
        due("the next gets another number", x.join(), 2);
    }

    private static void itOwes() {
        promise.says("STATE: it OWES");
        for (int owes = 0; owes <= 2; owes++) {
            SitterCircle x = Check.circle("issue 2; debt 5;", 2);
            Circles.sit(x, 0, 1, 2 + owes);
            due("told(0, 1)", x.told(0, 1), owes);
            due("leave(0) when it owes " + owes, x.leave(0), owes == 0 ? 0 : STATE);
        }
        SitterCircle y = Check.circle("issue 2; debt 5;", 2);
        Circles.sit(y, 0, 1, 4);
        Circles.sit(y, 1, 0, 1);
        due("owes one still", y.leave(0), STATE);
        Circles.sit(y, 1, 0, 1);
        due("owes none", y.leave(0), 0);
        due("the one that is not in debt", y.leave(1), 4);
    }

    private static void hasAnAsk() {
        promise.says("STATE: or has an ASK");
        SitterCircle x = Check.circle("issue 3;", 3);
        x.ask(0, 0, 1);
        due("leave(0)", x.leave(0), STATE);
        due("leave(1)", x.leave(1), 3);
        x.broken(0);
        due("leave(0) when it is broken", x.leave(0), 3);
        for (int i = 0; i < 9; i++) {
            x.join();
            x.ask(2, 0, 1);
        }
        x.ask(3, 0, 1);
        due("leave(3): the tenth ask", x.leave(3), STATE);
        due("leave(2): nine asks", x.leave(2), STATE);
        due("leave(4)", x.leave(4), 3);
        x.evening();
        due("leave(3) after the evening", x.leave(3), 3);
        due("leave(2) after the evening", x.leave(2), 3);
    }

    private static void hasAnOffer() {
        promise.says("STATE: or has an OFFER");
        SitterCircle x = Check.circle("issue 3;", 12);
        x.offer(0, 0, 1);
        due("leave(0)", x.leave(0), STATE);
        due("leave(1)", x.leave(1), 3);
        for (int i = 0; i < 8; i++) {
            x.offer(2, 0, 1);
        }
        x.offer(11, 0, 1);
        due("leave(11): the tenth offer", x.leave(11), STATE);
        due("leave(2): eight offers", x.leave(2), STATE);
        due("leave(3)", x.leave(3), 3);
        x.evening();
        due("leave(0) after the evening", x.leave(0), 3);
        due("leave(11) after the evening", x.leave(11), 3);
    }

    private static void refusedLeavesAll() {
        promise.says("what is refused changes nothing");
        for (int f : new int[] {Integer.MIN_VALUE, -1, 3, 5, 12, Integer.MAX_VALUE}) {
            promise.refuses("leave(" + f + "), which is none", Circles::busy, x -> x.leave(f), BAD);
        }
        promise.refuses("leave(0), which owes", Circles::busy, x -> x.leave(0), STATE);
        promise.refuses("leave(1), which asks and offers", Circles::busy, x -> x.leave(1), STATE);
        promise.refuses("leave(1), which asks", () -> withAVisit(true), x -> x.leave(1), STATE);
        promise.refuses("leave(1), which offers", () -> withAVisit(false), x -> x.leave(1), STATE);
    }

    private static SitterCircle withAVisit(boolean isAsk) {
        SitterCircle x = Check.circle("issue 3;", 3);
        if (isAsk) {
            x.ask(1, 0, 1);
        } else {
            x.offer(1, 0, 1);
        }
        return x;
    }
}
