/** Promises 2 to 8: the tape, the votes, what counts on a day, days that go by. */
public final class TextsTest {
    private static final int BAD = SitterCircle.BAD, STATE = SitterCircle.STATE;
    private static final int FULL = SitterCircle.FULL, NONE = SitterCircle.NONE;

    private static final Check check = new Check("TextsTest");

    public static void main(String[] args) {
        feed();
        end();
        voteTakes();
        voteFaults();
        votesBadAndFull();
        faultIsOfTheLatest();
        unwind();
        rule();
        go();
        expireByTheRuleOfEachDay();
        check.finish();
    }

    private static void due(String call, long got, long want) {
        check.due(call, got, want);
    }

    private static void feed() {
        SitterCircle x = new SitterCircle();
        for (int i = 1; i <= 25; i++) {
            due("feed " + i, x.feed(-1L), 8 * i);
        }
        due("feed beyond 200", x.feed(0), FULL);
        due("end after FULL", x.end(193), 200);
        due("feed onto 193", x.feed(0), FULL);
        due("end of 193", x.end(192), 193);
        due("feed onto 192", x.feed(0), 200);
        x.end(0);
        // "debt 7; " with the highest byte first
        due("feed a text", x.feed(0x6465627420373b20L), 8);
        due("vote it", x.vote(0), 0);
        due("its debt", x.rule(0, 4), 7);
    }

    private static void end() {
        SitterCircle x = new SitterCircle();
        due("end(0) of nothing", x.end(0), 0);
        due("end(1) of nothing", x.end(1), BAD);
        due("end(-1)", x.end(-1), BAD);
        x.feed(0);
        due("end(9) of 8", x.end(9), BAD);
        due("end(MIN)", x.end(Integer.MIN_VALUE), BAD);
        due("end(MAX)", x.end(Integer.MAX_VALUE), BAD);
        due("end(8) of 8", x.end(8), 8);
        due("end(3) of 8", x.end(3), 8);
        due("end(4) of 3", x.end(4), BAD);
        due("end(3) of 3", x.end(3), 3);
        due("feed behind 3", x.feed(0), 11);
    }

    private static int vote(String text) {
        return Check.write(new SitterCircle(), text).vote(0);
    }

    private static void takes(String text, int issue, int dbl, int expire, int late, int debt) {
        SitterCircle x = Check.write(new SitterCircle(), text);
        due("vote " + text, x.vote(0), 0);
        due("fault of " + text, x.fault(), 0);
        int[] want = {issue, dbl, expire, late, debt, 0};
        for (int what = 0; what < want.length; what++) {
            due(text + " rule " + what, x.rule(0, what), want[what]);
        }
        due("the tape is empty then", x.end(0), 0);
    }

    private static void voteTakes() {
        takes("issue 0;", 0, NONE, NONE, 0, 0);
        takes("issue 200;", 200, NONE, NONE, 0, 0);
        takes("double 0;", 0, 0, NONE, 0, 0);
        takes("double 47;", 0, 47, NONE, 0, 0);
        takes("expire 1;", 0, NONE, 1, 0, 0);
        takes("expire 400;", 0, NONE, 400, 0, 0);
        takes("late 0;", 0, NONE, NONE, 0, 0);
        takes("late 50;", 0, NONE, NONE, 50, 0);
        takes("debt 0;", 0, NONE, NONE, 0, 0);
        takes("debt 100;", 0, NONE, NONE, 0, 100);
        takes("  debt   5  ;   late 6 ; ", 0, NONE, NONE, 6, 5);
        takes("debt 5;late 4;expire 3;double 2;issue 1;", 1, 2, 3, 4, 5);
        takes("issue5;double6;", 5, 6, NONE, 0, 0);
        takes("issue 0007;", 7, NONE, NONE, 0, 0);
        takes("issue 0200;", 200, NONE, NONE, 0, 0);
    }

    private static void refuses(String text, int which, int place) {
        SitterCircle x = Check.write(new SitterCircle(), text);
        due("vote '" + text + "'", x.vote(0), -10 - place);
        due("fault of '" + text + "'", x.fault(), which);
        due("no text of '" + text + "'", x.count(1), 0);
        due("the tape is empty after '" + text + "'", x.end(0), 0);
    }

    private static void voteFaults() {
        refuses("", 2, 0);
        refuses("   ", 2, 3);
        // 1: no token, an unknown name, a number too long
        refuses("Issue 3;", 1, 0);
        refuses("issue 3; ?", 1, 9);
        refuses("issue 3;\u0000", 1, 8);
        refuses("issue\t3;", 1, 5);
        refuses("issue -3;", 1, 6);
        refuses("issue \u00e93;", 1, 6);
        refuses("\u00fc", 1, 0);
        refuses("{", 1, 0);
        refuses("`", 1, 0);
        refuses("issue /;", 1, 6);
        refuses("issue :;", 1, 6);
        refuses("issues 3;", 1, 0);
        refuses("issu 3;", 1, 0);
        refuses("issuea 3;", 1, 0);
        refuses("issuez 3;", 1, 0);
        refuses("issue 90009;", 1, 6);
        refuses("  issueissue 3;", 1, 2);
        refuses("issue 00003;", 1, 6);
        refuses("issue 12345678901234567890;", 1, 6);
        // a token is looked at before where it stands
        refuses("issue foo;", 1, 6);
        refuses("12345", 1, 0);
        refuses("issue 3 12345;", 1, 8);
        refuses("issue 3;issue foo", 4, 8);
        // 2: a token that can not stand there, or the end
        refuses("3;", 2, 0);
        refuses(";", 2, 0);
        refuses("issue;", 2, 5);
        refuses("issue", 2, 5);
        refuses("issue  ", 2, 7);
        refuses("issue issue 3;", 2, 6);
        refuses("issue late 3;", 2, 6);
        refuses("issue 3", 2, 7);
        refuses("issue 3   ", 2, 10);
        refuses("issue 3 late 4;", 2, 8);
        refuses("issue 3 4;", 2, 8);
        refuses("issue 3;;", 2, 8);
        refuses("issue 3; 4", 2, 9);
        refuses("issue 3; late", 2, 13);
        // 3: bounds, before the token behind is read
        refuses("issue 201;", 3, 6);
        refuses("issue 9999;", 3, 6);
        refuses("double 48;", 3, 7);
        refuses("expire 0;", 3, 7);
        refuses("expire 401;", 3, 7);
        refuses("late 51;", 3, 5);
        refuses("debt 101;", 3, 5);
        refuses("debt 101?", 3, 5);
        refuses("debt 101", 3, 5);
        // 4: told already, before the token behind is read
        refuses("issue 3; late 1; issue 4;", 4, 17);
        refuses("issue 3;issue", 4, 8);
        refuses("late 0;late 0;", 4, 7);
        refuses("issue 1;double 1;expire 1;late 1;debt 1;debt 1;", 4, 40);
        refuses("issue 1;double 1;expire 1;late 1;debt 1; free", 1, 41);
        refuses("issue 1;double 1;expire 1;late 1;debt 1;;", 2, 40);
        due("a faulty text voted late is of the tape", vote(" late 7"), -17);
        StringBuilder full = new StringBuilder("issue 3;");
        while (full.length() < 200) {
            full.append(' ');
        }
        due("a tape of 200", vote(full.toString()), 0);
        full.setCharAt(199, ';');
        due("a fault at 199", vote(full.toString()), -209);
    }

    private static void votesBadAndFull() {
        SitterCircle x = Check.write(new SitterCircle(), "issue 3;");
        due("vote(-1)", x.vote(-1), BAD);
        due("vote(2001)", x.vote(2001), BAD);
        due("vote(MAX)", x.vote(Integer.MAX_VALUE), BAD);
        x.go(5);
        due("vote behind the day", x.vote(4), BAD);
        due("the tape stayed", x.end(8), 8);
        due("vote(2000)", x.vote(2000), 0);
        due("rule(1999, 0)", x.rule(1999, 0), 0);
        due("rule(2000, 0)", x.rule(2000, 0), 3);
        for (int i = 1; i < 6; i++) {
            Check.write(x, "late " + i + ";");
            due("vote " + i, x.vote(5), i);
        }
        Check.write(x, "foo");
        due("a day that is past when full", x.vote(4), BAD);
        due("vote when full", x.vote(5), FULL);
        due("fault when full", x.fault(), 0);
        due("the tape stayed when full", x.end(0), 3);
        due("count(1) when full", x.count(1), 6);
    }

    private static void faultIsOfTheLatest() {
        SitterCircle x = new SitterCircle();
        due("fault at first", x.fault(), 0);
        Check.write(x, "issue 999;").vote(0);
        due("fault 3", x.fault(), 3);
        x.vote(-1);
        due("fault after BAD", x.fault(), 3);
        due("unwind changes it not", x.unwind(), NONE);
        due("fault after unwind", x.fault(), 3);
        Check.write(x, "issue 9;").vote(3);
        due("fault after a vote", x.fault(), 0);
        x.vote(0);
        due("fault of the empty tape", x.fault(), 2);
        due("count(1)", x.count(1), 1);
    }

    private static void unwind() {
        SitterCircle x = new SitterCircle();
        due("unwind nothing", x.unwind(), NONE);
        Check.write(x, "issue 1;").vote(0);
        due("unwind what counts", x.unwind(), STATE);
        Check.write(x, "issue 2;").vote(3);
        Check.write(x, "issue 3;").vote(2);
        due("unwind 2", x.unwind(), 2);
        due("count(1)", x.count(1), 2);
        due("rule(2, 0)", x.rule(2, 0), 1);
        Check.write(x, "issue 4;");
        due("its number comes again", x.vote(2), 2);
        x.go(2);
        due("its day has come", x.unwind(), STATE);
        due("rule(3, 0) stays", x.rule(3, 0), 2);
        Check.write(x, "issue 5;").vote(3);
        due("a later one voted", x.unwind(), 3);
        due("an earlier one in the way", x.unwind(), STATE);
        for (int i = 0; i < 3; i++) {
            Check.write(x, "issue 6;").vote(9);
        }
        Check.write(x, "issue 7;");
        due("six", x.vote(9), FULL);
        due("unwind 5", x.unwind(), 5);
        due("room again", x.vote(9), 5);
        due("rule(9, 0)", x.rule(9, 0), 7);
    }

    private static void rule() {
        SitterCircle x = new SitterCircle();
        Check.write(x, "issue 1; double 2; expire 3; late 4; debt 5;").vote(10);
        Check.write(x, "late 6;").vote(20);
        Check.write(x, "debt 7;").vote(10);
        Check.write(x, "issue 8;").vote(15);
        int[][] want = {
            {9, 0, NONE, NONE, 0, 0, NONE},
            {10, 0, NONE, NONE, 0, 7, 2},
            {14, 0, NONE, NONE, 0, 7, 2},
            {15, 8, NONE, NONE, 0, 0, 3},
            {19, 8, NONE, NONE, 0, 0, 3},
            {20, 0, NONE, NONE, 6, 0, 1},
            {2000, 0, NONE, NONE, 6, 0, 1}};
        for (int[] row : want) {
            for (int what = 0; what <= 5; what++) {
                due("rule(" + row[0] + ", " + what + ")", x.rule(row[0], what), row[what + 1]);
            }
        }
        due("rule(-1, 0)", x.rule(-1, 0), BAD);
        due("rule(2001, 0)", x.rule(2001, 0), BAD);
        due("rule(0, -1)", x.rule(0, -1), BAD);
        due("rule(0, 6)", x.rule(0, 6), BAD);
        x.go(100);
        due("a past day", x.rule(15, 0), 8);
    }

    private static void go() {
        SitterCircle x = Check.circle("issue 3;", 2);
        due("go(0)", x.go(0), BAD);
        due("go(-1)", x.go(-1), BAD);
        due("go(101)", x.go(101), BAD);
        due("go(MAX)", x.go(Integer.MAX_VALUE), BAD);
        due("go(1)", x.go(1), 1);
        x.ask(0, 0, 1);
        due("go with an ask", x.go(1), STATE);
        due("go(0) with an ask", x.go(0), BAD);
        x.evening();
        x.offer(0, 0, 1);
        due("go with an offer", x.go(1), STATE);
        x.evening();
        due("go(99)", x.go(99), 100);
        for (int day = 200; day <= 2000; day += 100) {
            due("go to " + day, x.go(100), day);
        }
        due("go beyond 2000", x.go(1), STATE);
        due("still", x.count(2), 2000);
    }

    private static void expireByTheRuleOfEachDay() {
        SitterCircle x = Check.circle("issue 4; expire 3;", 1);
        due("go(3)", x.go(3), 3);
        due("three days old", x.told(0, 0), 4);
        due("go(1)", x.go(1), 4);
        due("four days old", x.told(0, 0), 0);
        due("expired", x.count(8), 4);

        // a text that counts on day 5 alone takes what is gone past in one go
        SitterCircle y = Check.circle("issue 4;", 1);
        Check.write(y, "expire 2;").vote(5);
        Check.write(y, "late 1;").vote(6);
        due("go(10)", y.go(10), 10);
        due("gone on day 5", y.told(0, 0), 0);
        due("expired on day 5", y.count(8), 4);

        // voted from today on: at once; from tomorrow on: not yet
        SitterCircle z = Check.circle("issue 4;", 1);
        z.go(10);
        z.join();
        Check.write(z, "expire 9;").vote(11);
        due("not yet", z.count(8), 0);
        Check.write(z, "expire 10;").vote(10);
        due("ten days old", z.count(8), 0);
        Check.write(z, "expire 9;").vote(10);
        due("at once", z.count(8), 4);
        due("the other's stay", z.told(1, 0), 4);
    }
}
