/** Promises 9 to 12: families, what they have and whom they bar. */
public final class FamiliesTest {
    private static final int BAD = SitterCircle.BAD, STATE = SitterCircle.STATE;
    private static final int FULL = SitterCircle.FULL, NONE = SitterCircle.NONE;

    private static final Check check = new Check("FamiliesTest");

    public static void main(String[] args) {
        join();
        leave();
        bar();
        told();
        wrongNumbers();
        oldestGoFirst();
        newestAreGivenUpFirst();
        notesOfManyDays();
        check.finish();
    }

    private static void due(String call, long got, long want) {
        check.due(call, got, want);
    }

    private static void join() {
        SitterCircle x = Check.circle("issue 7;", 0);
        Check.write(x, "issue 9;").vote(1);
        for (int i = 0; i < 6; i++) {
            due("join " + i, x.join(), i);
            due("issued " + i, x.told(i, 0), 7);
        }
        x.go(1);
        due("leave", x.leave(2), 7);
        for (int i = 6; i < 12; i++) {
            due("join " + i, x.join(), i);
            due("issued " + i, x.told(i, 0), 9);
            due("day of " + i, x.told(i, 2), 1);
            due("owes " + i, x.told(i, 1), 0);
        }
        due("twelve came", x.join(), FULL);
        due("eleven are there", x.count(0), 11);
        due("came", x.count(7), 6 * 7 + 6 * 9);
        SitterCircle y = Check.circle("", 1);
        due("nothing issued", y.told(0, 0), 0);
    }

    private static void leave() {
        SitterCircle x = Check.circle("issue 3; debt 5;", 3);
        due("leave(-1)", x.leave(-1), BAD);
        due("leave(3)", x.leave(3), BAD);
        x.ask(0, 0, 1);
        due("has an ask", x.leave(0), STATE);
        x.offer(1, 0, 1);
        due("has an offer", x.leave(1), STATE);
        due("has none", x.leave(2), 3);
        due("left already", x.leave(2), BAD);
        due("given up", x.count(9), 3);
        due("count(5)", x.count(5), 6);
        due("evening", x.evening(), 1);
        x.ask(0, 0, 4);
        x.offer(1, 0, 4);
        due("evening", x.evening(), 1);
        due("owes", x.told(0, 1), 2);
        due("leave when it owes", x.leave(0), STATE);
        due("leave with all", x.leave(1), 8);
        due("given up then", x.count(9), 11);
        due("told", x.told(1, 0), BAD);
        due("bar", x.bar(0, 1, true), BAD);
        due("bar", x.bar(1, 0, true), BAD);
        due("ask", x.ask(1, 0, 1), BAD);
        due("offer", x.offer(1, 0, 1), BAD);
        due("join", x.join(), 3);
    }

    private static void bar() {
        SitterCircle x = Check.circle("issue 9;", 12);
        due("bar itself", x.bar(3, 3, true), BAD);
        due("bar(12, 0)", x.bar(12, 0, true), BAD);
        due("bar(0, 12)", x.bar(0, 12, true), BAD);
        due("bar(-1, 0)", x.bar(-1, 0, true), BAD);
        due("bar(0, -1)", x.bar(0, -1, true), BAD);
        due("bar(0, MIN)", x.bar(0, Integer.MIN_VALUE, true), BAD);
        due("bar(0, 32)", x.bar(0, 32, true), BAD);
        due("bar(0, 11, true)", x.bar(0, 11, true), 0);
        due("bar(0, 11, true) again", x.bar(0, 11, true), 1);
        due("the other one does not", x.bar(11, 0, false), 0);
        due("nor another", x.bar(0, 10, false), 0);
        due("bar(0, 11, false)", x.bar(0, 11, false), 1);
        due("bar(0, 11, false) again", x.bar(0, 11, false), 0);
        due("off and off", x.bar(0, 11, true), 0);
    }

    private static void told() {
        SitterCircle x = Check.circle("issue 6; double 40; debt 3; late 2;", 2);
        x.go(4);
        due("oldest", x.told(0, 2), 0);
        x.ask(0, 36, 42);
        x.offer(1, 30, 48);
        due("evening", x.evening(), 1);
        int[][] want = {{0, 2, NONE, 0, 1, 0}, {14, 0, 0, 8, 0, 12}};
        for (int f = 0; f < 2; f++) {
            for (int what = 0; what <= 5; what++) {
                due("told(" + f + ", " + what + ")", x.told(f, what), want[f][what]);
            }
        }
        // a break is no sitting
        x.ask(1, 0, 2);
        x.offer(0, 0, 2);
        due("broken", x.broken(0), 2);
        due("sat for", x.told(1, 4), 0);
        due("sat", x.told(0, 3), 0);
        due("owes no more", x.told(0, 1), 0);
        due("notes", x.told(1, 0), 12);
        due("of the oldest day", x.told(1, 5), 10);
    }

    private static void wrongNumbers() {
        SitterCircle x = Check.circle("issue 6;", 1);
        due("told(0, -1)", x.told(0, -1), BAD);
        due("told(0, 6)", x.told(0, 6), BAD);
        due("told(1, 0)", x.told(1, 0), BAD);
        due("told(-1, 0)", x.told(-1, 0), BAD);
        due("told(12, 0)", x.told(12, 0), BAD);
        due("told(MAX, 0)", x.told(Integer.MAX_VALUE, 0), BAD);
    }

    /** An ask of f from 0 on is sat by g, so that as many notes go over. */
    private static void sit(SitterCircle x, int f, int g, int halfHours) {
        x.ask(f, 0, halfHours);
        x.offer(g, 0, halfHours);
        due("evening", x.evening(), 1);
    }

    private static void oldestGoFirst() {
        SitterCircle x = Check.circle("issue 3;", 1);
        x.go(2);
        x.join();
        x.go(2);
        x.join();
        sit(x, 1, 0, 2);
        due("0 has five", x.told(0, 0), 5);
        due("0's oldest", x.told(0, 2), 0);
        sit(x, 2, 0, 1);
        sit(x, 0, 2, 4);
        due("0's oldest then", x.told(0, 2), 2);
        due("0's of that day", x.told(0, 5), 1);
        due("0's notes", x.told(0, 0), 2);
        due("2's oldest then", x.told(2, 2), 0);
        due("2's of that day", x.told(2, 5), 3);
        due("2's notes", x.told(2, 0), 6);
        Check.write(x, "expire 2;").vote(4);
        due("three of day 0", x.count(8), 3);
        due("2's oldest is of day 2", x.told(2, 2), 2);
        due("one of these", x.told(2, 5), 1);
    }

    private static void newestAreGivenUpFirst() {
        SitterCircle x = Check.circle("issue 2; debt 20;", 3);
        sit(x, 0, 1, 5);
        due("0 owes", x.told(0, 1), 3);
        due("1 has", x.told(1, 0), 7);
        x.go(3);
        // 2 has two of day 0, lacks four: 0 gets six, gives up three of the day
        sit(x, 2, 0, 6);
        due("0 owes no more", x.told(0, 1), 0);
        due("0 has three", x.told(0, 0), 3);
        due("two of them of day 0", x.told(0, 5), 2);
        due("0's oldest", x.told(0, 2), 0);
        due("2 owes", x.told(2, 1), 4);
        due("given up", x.count(9), 3);
        due("came", x.count(7), 6 + 3 + 4);
        due("count(6)", x.count(6), 4);
        due("count(5)", x.count(5), 10);
        // less than it owes: it has none, owes still
        sit(x, 0, 2, 3);
        due("2 owes one", x.told(2, 1), 1);
        due("2 has none", x.told(2, 0), 0);
        due("2's oldest", x.told(2, 2), NONE);
        due("2's next", x.told(2, 5), 0);
    }

    /** Family 0 gets a note of each of ten days, in an order that is not theirs. */
    private static SitterCircle manyDays(int... payers) {
        SitterCircle x = Check.circle("issue 1; debt 6;", 1);
        for (int day = 1; day <= 10; day++) {
            x.go(1);
            x.join();
        }
        for (int payer : payers) {
            sit(x, payer, 0, 1);
        }
        return x;
    }

    private static void notesOfManyDays() {
        SitterCircle x = manyDays(5, 1, 9, 3, 7, 2, 8, 4, 6);
        due("ten notes", x.told(0, 0), 10);
        for (int day = 0; day < 10; day++) {
            due("oldest " + day, x.told(0, 2), day);
            due("of day " + day, x.told(0, 5), 1);
            sit(x, 0, 1 + day % 9, 1);
        }
        due("none", x.told(0, 2), NONE);

        // of notes of five days the three newest go for three that are owed
        SitterCircle y = manyDays(4, 2, 3, 1);
        sit(y, 9, 8, 4);
        due("9 owes", y.told(9, 1), 3);
        sit(y, 0, 9, 5);
        due("9 has two", y.told(9, 0), 2);
        due("9 owes no more", y.told(9, 1), 0);
        due("9's oldest", y.told(9, 2), 0);
        sit(y, 9, 5, 1);
        due("9's other one", y.told(9, 2), 1);

        // half of the days expire at once
        SitterCircle z = manyDays(9, 8, 7, 6, 5, 4, 3, 2, 1);
        Check.write(z, "expire 5;").vote(10);
        due("days 0 to 4", z.count(8), 5);
        due("five notes", z.told(0, 0), 5);
        due("of day 5 on", z.told(0, 2), 5);
        sit(z, 0, 1, 4);
        due("the last is of day 9", z.told(0, 2), 9);
    }
}
