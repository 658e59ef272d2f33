/** Promise 7: rule. */
public final class Promise07RuleTest {
    private static final int BAD = SitterCircle.BAD, NONE = SitterCircle.NONE;

    private static final Promise promise = new Promise(7, "rule");

    public static void main(String[] args) {
        days();
        whats();
        notBehindTheDay();
        severalOfOneDay();
        withoutAny();
        whatItDoesNotTell();
        pastDays();
        changesNothing();
        promise.finish();
    }

    private static void due(String call, long got, long want) {
        promise.due(call, got, want);
    }

    private static void days() {
        promise.says("a DAY (0 to 2000). BAD");
        SitterCircle x = Check.circle("issue 3; double 4; expire 5; late 6; debt 7;", 0);
        int[] told = {3, 4, 5, 6, 7, 0};
        for (int what = 0; what < 6; what++) {
            for (int day : new int[] {0, 1, 1999, 2000}) {
                due("rule(" + day + ", " + what + ")", x.rule(day, what), told[what]);
            }
            for (int day : new int[] {Integer.MIN_VALUE, -1, 2001, Integer.MAX_VALUE}) {
                due("rule(" + day + ", " + what + ")", x.rule(day, what), BAD);
            }
        }
        SitterCircle last = Circles.onDay(new SitterCircle(), 2000);
        due("rule(2000, 0) on day 2000", last.rule(2000, 0), 0);
        due("rule(2001, 0) on day 2000", last.rule(2001, 0), BAD);
    }

    private static void whats() {
        promise.says("0 issue, 1 double, 2 expire, 3 late, 4 debt, 5 the TEXT. BAD");
        SitterCircle x = Check.circle("issue 3; double 4; expire 5; late 6; debt 7;", 0);
        int[] told = {3, 4, 5, 6, 7, 0};
        for (int what = 0; what < 6; what++) {
            due("rule(0, " + what + ")", x.rule(0, what), told[what]);
        }
        for (int what : new int[] {Integer.MIN_VALUE, -1, 6, 7, Integer.MAX_VALUE}) {
            due("rule(0, " + what + ")", x.rule(0, what), BAD);
            due("rule(0, " + what + ") without texts", new SitterCircle().rule(0, what), BAD);
        }
    }

    private static void notBehindTheDay() {
        promise.says("the one counts that was voted from the latest DAY not behind it");
        SitterCircle x = new SitterCircle();
        int[] days = {10, 2000, 0, 1999, 5, 11};
        for (int i = 0; i < days.length; i++) {
            Check.write(x, "debt " + (i + 1) + ";").vote(days[i]);
        }
        int[][] counts = {{0, 2}, {1, 2}, {4, 2}, {5, 4}, {6, 4}, {9, 4}, {10, 0}, {11, 5}, {12, 5},
            {1998, 5}, {1999, 3}, {2000, 1}};
        for (int[] row : counts) {
            due("rule(" + row[0] + ", 5)", x.rule(row[0], 5), row[1]);
            due("rule(" + row[0] + ", 4)", x.rule(row[0], 4), row[1] + 1);
        }
    }

    private static void severalOfOneDay() {
        promise.says("of several the one voted last");
        for (int day : new int[] {0, 7, 2000}) {
            SitterCircle x = new SitterCircle();
            for (int i = 0; i < 6; i++) {
                Check.write(x, "late " + (i + 1) + ";").vote(day);
                due("rule(" + day + ", 5)", x.rule(day, 5), i);
                due("rule(" + day + ", 3)", x.rule(day, 3), i + 1);
            }
        }
    }

    private static void withoutAny() {
        promise.says("without any: issue 0, no double, nothing expires, late 0, debt 0");
        SitterCircle x = new SitterCircle();
        Check.write(x, "issue 3; double 4; expire 5; late 6; debt 7;").vote(10);
        int[] without = {0, NONE, NONE, 0, 0, NONE};
        int[] told = {3, 4, 5, 6, 7, 0};
        for (int what = 0; what < 6; what++) {
            due("rule(0, " + what + ")", x.rule(0, what), without[what]);
            due("rule(9, " + what + ")", x.rule(9, what), without[what]);
            due("rule(10, " + what + ")", x.rule(10, what), told[what]);
            due("rule(11, " + what + ")", x.rule(11, what), told[what]);
        }
    }

    private static void whatItDoesNotTell() {
        promise.says("and for what it does not tell: issue 0, no double, nothing expires, late 0, debt 0");
        String[] laws = {"issue 3;", "double 4;", "expire 5;", "late 6;", "debt 7;"};
        int[] without = {0, NONE, NONE, 0, 0};
        for (int law = 0; law < 5; law++) {
            // an earlier text tells it all, yet it does not count any more
            SitterCircle x = Check.circle("issue 13; double 14; expire 15; late 16; debt 17;", 0);
            Check.write(x, laws[law]).vote(1);
            for (int what = 0; what < 5; what++) {
                due(laws[law] + " rule(0, " + what + ")", x.rule(0, what), 13 + what);
                due(laws[law] + " rule(1, " + what + ")", x.rule(1, what), what == law ? 3 + what : without[what]);
            }
            due(laws[law] + " rule(1, 5)", x.rule(1, 5), 1);
        }
        SitterCircle zero = Check.circle("double 0;", 0);
        due("double 0 is told", zero.rule(0, 1), 0);
    }

    private static void pastDays() {
        promise.says("What counts on a DAY, of past ones, too");
        SitterCircle x = Check.circle("debt 1;", 0);
        x.go(5);
        Check.write(x, "debt 2;").vote(5);
        due("rule(4, 4)", x.rule(4, 4), 1);
        due("rule(5, 4)", x.rule(5, 4), 2);
        x.go(5);
        due("rule(4, 4) later", x.rule(4, 4), 1);
        due("rule(0, 4) later", x.rule(0, 4), 1);
    }

    private static void changesNothing() {
        promise.says("what is refused changes nothing");
        promise.refuses("rule(-1, 0)", Circles::busy, x -> x.rule(-1, 0), BAD);
        promise.refuses("rule(2001, 0)", Circles::busy, x -> x.rule(2001, 0), BAD);
        promise.refuses("rule(0, -1)", Circles::busy, x -> x.rule(0, -1), BAD);
        promise.refuses("rule(0, 6)", Circles::busy, x -> x.rule(0, 6), BAD);
        promise.same("rule(3, 4)", Circles::busy, x -> x.rule(3, 4), x -> 0);
    }
}
