/** Promise 6: unwind. */
public final class Promise06UnwindTest {
    private static final int STATE = SitterCircle.STATE, FULL = SitterCircle.FULL, NONE = SitterCircle.NONE;

    private static final Promise promise = new Promise(6, "unwind");

    public static void main(String[] args) {
        thereIsNone();
        itsDayIsBehindNow();
        itsDayComes();
        theLatestVoted();
        itsNumber();
        takenBack();
        roomForAnother();
        refusedLeavesAll();
        promise.finish();
    }

    private static void due(String call, long got, long want) {
        promise.due(call, got, want);
    }

    private static int voteOn(SitterCircle x, int day, int debt) {
        return Check.write(x, "debt " + debt + ";").vote(day);
    }

    private static void thereIsNone() {
        promise.says("NONE: there is none");
        SitterCircle x = new SitterCircle();
        due("at first", x.unwind(), NONE);
        Check.write(x, "foo").vote(0);
        due("after a faulty one", x.unwind(), NONE);
        voteOn(x, 1, 1);
        due("the only one", x.unwind(), 0);
        due("none again", x.unwind(), NONE);
        due("count(1)", x.count(1), 0);
    }

    private static void itsDayIsBehindNow() {
        promise.says("if it does not count yet (its DAY is behind now); STATE");
        for (int now : new int[] {0, 1, 5, 1998, 1999}) {
            for (int ahead = 0; ahead <= 2 && now + ahead <= 2000; ahead++) {
                SitterCircle x = Circles.onDay(new SitterCircle(), now);
                voteOn(x, now + ahead, 7);
                due("on day " + now + ", of a text " + ahead + " ahead", x.unwind(), ahead == 0 ? STATE : 0);
                due("count(1) then", x.count(1), ahead == 0 ? 1 : 0);
            }
        }
        SitterCircle last = Circles.onDay(new SitterCircle(), 2000);
        voteOn(last, 2000, 7);
        due("on day 2000", last.unwind(), STATE);
    }

    private static void itsDayComes() {
        promise.says("(its DAY is behind now)");
        for (int gone = 0; gone <= 4; gone++) {
            SitterCircle x = new SitterCircle();
            voteOn(x, 3, 7);
            if (gone > 0) {
                x.go(gone);
            }
            due("day 3 on day " + gone, x.unwind(), gone < 3 ? 0 : STATE);
        }
    }

    private static void theLatestVoted() {
        promise.says("The latest TEXT voted");
        SitterCircle x = new SitterCircle();
        voteOn(x, 9, 1);
        voteOn(x, 0, 2);
        due("one of a later day was voted before", x.unwind(), STATE);
        SitterCircle y = new SitterCircle();
        voteOn(y, 9, 1);
        voteOn(y, 4, 2);
        due("of day 4, not of day 9", y.unwind(), 1);
        due("rule(4, 4)", y.rule(4, 4), 0);
        due("rule(9, 4)", y.rule(9, 4), 1);
        due("of day 9 then", y.unwind(), 0);
        due("rule(9, 4) then", y.rule(9, 4), 0);
    }

    private static void itsNumber() {
        promise.says("its number");
        SitterCircle x = new SitterCircle();
        for (int i = 0; i < 6; i++) {
            voteOn(x, 1 + i, i);
        }
        for (int i = 5; i >= 0; i--) {
            due("unwind()", x.unwind(), i);
            due("count(1)", x.count(1), i);
        }
        due("unwind() of none", x.unwind(), NONE);
    }

    private static void takenBack() {
        promise.says("is taken back");
        SitterCircle x = new SitterCircle();
        voteOn(x, 0, 1);
        voteOn(x, 5, 2);
        voteOn(x, 5, 3);
        due("rule(5, 4)", x.rule(5, 4), 3);
        due("unwind()", x.unwind(), 2);
        due("rule(5, 4): the one before", x.rule(5, 4), 2);
        due("unwind()", x.unwind(), 1);
        due("rule(5, 4): that of day 0", x.rule(5, 4), 1);
        due("rule(5, 5)", x.rule(5, 5), 0);
        due("unwind() of what counts", x.unwind(), STATE);
        due("rule(5, 5) still", x.rule(5, 5), 0);
        // its laws are gone, too
        SitterCircle y = new SitterCircle();
        Check.write(y, "issue 4; late 6;").vote(5);
        y.unwind();
        voteOn(y, 5, 3);
        due("rule(5, 0) of another one", y.rule(5, 0), 0);
        due("rule(5, 3) of another one", y.rule(5, 3), 0);
        due("rule(5, 4) of another one", y.rule(5, 4), 3);
    }

    private static void roomForAnother() {
        promise.says("TEXTS (6)");
        SitterCircle x = new SitterCircle();
        for (int i = 0; i < 6; i++) {
            voteOn(x, 9, i);
        }
        due("a seventh", voteOn(x, 9, 60), FULL);
        due("unwind()", x.unwind(), 5);
        due("the tape stayed", x.vote(9), 5);
        due("rule(9, 4)", x.rule(9, 4), 60);
        due("another one", voteOn(x, 9, 61), FULL);
    }

    private static void refusedLeavesAll() {
        promise.says("what is refused changes nothing");
        promise.refuses("NONE", () -> Check.write(Check.circle("", 3), "late 4;"), SitterCircle::unwind, NONE);
        promise.refuses("STATE", () -> {
            SitterCircle x = Circles.busy();
            x.vote(3);
            return Check.write(x, "late 4;");
        }, SitterCircle::unwind, STATE);
        promise.same("a vote and its unwind", Circles::full, x -> {
            x.unwind();
            x.end(0);
            Check.write(x, "issue 9; debt 2;").vote(9);
            Circles.filled(x, "late 7;", 200);
            return 0;
        }, x -> 0);
    }
}
