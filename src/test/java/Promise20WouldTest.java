/** Promise 20: would. */
public final class Promise20WouldTest {
    private static final int BAD = SitterCircle.BAD;

    private static final Promise promise = new Promise(20, "would");

    public static void main(String[] args) {
        zeroToThousand();
        ifDebtWereN();
        withWhatItOwes();
        theMatchOfThatDebt();
        changesNothing();
        promise.finish();
    }

    private static void due(String call, long got, long want) {
        promise.due(call, got, want);
    }

    private static void zeroToThousand() {
        promise.says("if debt were n (0 to 1000). BAD");
        SitterCircle x = Check.circle("issue 2;", 2);
        x.ask(0, 0, 2);
        x.ask(0, 0, 3);
        x.offer(1, 0, 48);
        x.offer(1, 0, 48);
        due("would(0)", x.would(0), 1);
        for (int n : new int[] {1, 2, 100, 101, 999, 1000}) {
            due("would(" + n + ")", x.would(n), 2);
        }
        for (int n : new int[] {Integer.MIN_VALUE, -2, -1, 1001, 1002, Integer.MAX_VALUE}) {
            due("would(" + n + ")", x.would(n), BAD);
            due("would(" + n + ") of nothing", new SitterCircle().would(n), BAD);
        }
        due("would(0) of nothing", new SitterCircle().would(0), 0);
        due("would(1000) of nothing", new SitterCircle().would(1000), 0);
    }

    private static void ifDebtWereN() {
        promise.says("How many pairs THE MATCH would have, if debt were n");
        SitterCircle x = Check.circle("issue 2; debt 5; double 0;", 4);
        x.ask(0, 0, 1);
        x.ask(1, 0, 3);
        x.ask(2, 0, 48);
        for (int i = 0; i < 3; i++) {
            x.offer(3, 0, 48);
        }
        int[][] want = {{0, 1}, {1, 1}, {3, 1}, {4, 2}, {5, 2}, {93, 2}, {94, 3}, {95, 3}};
        for (int[] w : want) {
            due("would(" + w[0] + ")", x.would(w[0]), w[1]);
        }
        due("met() by debt 5", x.met(), 2);
        due("would(5) is as met()", x.would(5), x.met());
        Check.write(x, "debt 100; double 0;").vote(0);
        due("met() by debt 100", x.met(), 3);
        due("would(4) then", x.would(4), 2);
        due("would(0) then", x.would(0), 1);
    }

    private static void withWhatItOwes() {
        promise.says("It may PAY, if it would OWE at most debt then");
        SitterCircle x = Check.circle("debt 100; late 50; double 0;", 2);
        Circles.sit(x, 0, 1, 48);
        x.ask(0, 0, 1);
        x.offer(1, 0, 48);
        due("broken(0)", x.broken(0), 50);
        due("told(0, 1)", x.told(0, 1), 146);
        x.ask(0, 0, 48);
        due("met()", x.met(), 0);
        due("would(241)", x.would(241), 0);
        due("would(242)", x.would(242), 1);
        due("would(243)", x.would(243), 1);
    }

    private static void theMatchOfThatDebt() {
        promise.says("pairs that FIT, each ASK, OFFER in one at most");
        SitterCircle x = Check.circle("issue 1;", 3);
        x.ask(0, 0, 1);
        x.ask(1, 0, 2);
        x.offer(2, 0, 2);
        due("one offer, debt 0", x.would(0), 1);
        due("one offer, debt 1", x.would(1), 1);
        x.offer(2, 0, 2);
        due("two offers, debt 0", x.would(0), 1);
        due("two offers, debt 1", x.would(1), 2);
        x.bar(2, 1, true);
        due("barred, debt 1000", x.would(1000), 1);
    }

    private static void changesNothing() {
        promise.says("what is refused changes nothing");
        for (int n : new int[] {Integer.MIN_VALUE, -1, 1001, Integer.MAX_VALUE}) {
            promise.refuses("would(" + n + ")", Circles::busy, x -> x.would(n), BAD);
        }
        promise.same("would(0)", Circles::busy, x -> x.would(0), x -> 0);
        promise.same("would(1000)", Circles::full, x -> x.would(1000), x -> 0);
        SitterCircle x = Check.circle("issue 1;", 2);
        x.ask(0, 0, 2);
        x.offer(1, 0, 2);
        due("would(1)", x.would(1), 1);
        due("sitter(0) still", x.sitter(0), SitterCircle.NONE);
        due("rule(0, 4) still", x.rule(0, 4), 0);
        due("evening()", x.evening(), 0);
    }
}
