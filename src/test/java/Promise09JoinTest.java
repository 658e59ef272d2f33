/** Promise 9: join. */
public final class Promise09JoinTest {
    private static final int FULL = SitterCircle.FULL, NONE = SitterCircle.NONE;

    private static final Promise promise = new Promise(9, "join");

    public static void main(String[] args) {
        itsNumber();
        twelveAtMost();
        thoseThatLeftToo();
        fullLeavesAll();
        asManyAsIssueTells();
        ofTheDay();
        owesNone();
        promise.finish();
    }

    private static void due(String call, long got, long want) {
        promise.due(call, got, want);
    }

    private static void itsNumber() {
        promise.says("A FAMILY: its number; FAMILIES are numbered as they come");
        SitterCircle x = new SitterCircle();
        for (int f = 0; f < 12; f++) {
            due("join " + f, x.join(), f);
            due("count(0)", x.count(0), f + 1);
            due("told of it", x.told(f, 0), 0);
            due("told of the next", x.told(f + 1, 0), SitterCircle.BAD);
        }
    }

    private static void twelveAtMost() {
        promise.says("FAMILIES (12 came at most): FULL");
        SitterCircle x = Check.circle("issue 1;", 11);
        due("the twelfth", x.join(), 11);
        due("the thirteenth", x.join(), FULL);
        due("the thirteenth again", x.join(), FULL);
        due("count(0)", x.count(0), 12);
        due("count(7)", x.count(7), 12);
        x.go(1);
        due("another day", x.join(), FULL);
    }

    private static void thoseThatLeftToo() {
        promise.says("(12 came at most, those that left, too)");
        SitterCircle x = Check.circle("", 11);
        for (int f = 0; f < 11; f++) {
            x.leave(f);
        }
        due("count(0) when all left", x.count(0), 0);
        due("the twelfth", x.join(), 11);
        due("the thirteenth", x.join(), FULL);
        x.leave(11);
        due("when none is there", x.join(), FULL);
        due("count(0)", x.count(0), 0);
        SitterCircle y = Check.circle("", 1);
        y.leave(0);
        due("a number does not come again", y.join(), 1);
    }

    private static void fullLeavesAll() {
        promise.says("what is refused changes nothing");
        promise.refuses("join() when twelve came", Circles::full, SitterCircle::join, FULL);
        promise.refuses("join() when twelve are there", () -> Check.circle("issue 5; expire 3;", 12),
                SitterCircle::join, FULL);
    }

    private static void asManyAsIssueTells() {
        promise.says("gets as many as issue tells");
        for (int issue : new int[] {0, 1, 2, 199, 200}) {
            SitterCircle x = Check.circle("issue " + issue + ";", 2);
            due("told(1, 0) of issue " + issue, x.told(1, 0), issue);
            due("told(1, 5)", x.told(1, 5), issue);
            due("told(1, 2)", x.told(1, 2), issue == 0 ? NONE : 0);
            due("count(5)", x.count(5), 2 * issue);
            due("count(7)", x.count(7), 2 * issue);
        }
        SitterCircle y = Check.circle("late 1;", 1);
        due("issue is not told", y.told(0, 0), 0);
        SitterCircle z = Check.circle("", 1);
        due("without a text", z.told(0, 0), 0);
        Check.write(z, "issue 9;").vote(0);
        due("one that came before gets none", z.told(0, 0), 0);
        z.join();
        due("one that comes then", z.told(1, 0), 9);
    }

    private static void ofTheDay() {
        promise.says("of the DAY");
        SitterCircle x = Check.circle("issue 3; expire 1;", 1);
        Check.write(x, "issue 4; expire 1;").vote(5);
        x.go(4);
        x.join();
        due("issue on day 4", x.told(1, 0), 3);
        due("of day 4", x.told(1, 2), 4);
        x.go(1);
        x.join();
        due("issue on day 5", x.told(2, 0), 4);
        due("of day 5", x.told(2, 2), 5);
        due("those of day 4 are there", x.told(1, 0), 3);
        x.go(1);
        due("those of day 4 are gone", x.told(1, 0), 0);
        due("those of day 5 are there", x.told(2, 0), 4);
        SitterCircle last = Circles.onDay(Check.circle("issue 2;", 0), 2000);
        last.join();
        due("of day 2000", last.told(0, 2), 2000);
    }

    private static void owesNone() {
        promise.says("A FAMILY OWES (0 at first)");
        SitterCircle x = Check.circle("debt 100;", 2);
        Circles.sit(x, 0, 1, 3);
        due("0 owes", x.told(0, 1), 3);
        due("join()", x.join(), 2);
        due("told(2, 1)", x.told(2, 1), 0);
        due("told(2, 3)", x.told(2, 3), 0);
        due("told(2, 4)", x.told(2, 4), 0);
        for (int f = 0; f < 2; f++) {
            due("it bars none", x.bar(2, f, false), 0);
            due("none bars it", x.bar(f, 2, false), 0);
        }
    }
}
