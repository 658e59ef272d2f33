/** Promise 3: end. */
public final class Promise03EndTest {
    private static final int BAD = SitterCircle.BAD;

    private static final Promise promise = new Promise(3, "end");

    public static void main(String[] args) {
        howManyItHad();
        fromNoneToAll();
        badLeavesAll();
        theFirstBytesAreKept();
        theRestIsGone();
        promise.finish();
    }

    private static void due(String call, long got, long want) {
        promise.due(call, got, want);
    }

    private static void howManyItHad() {
        promise.says("how many it had");
        SitterCircle x = Circles.filled(new SitterCircle(), "", 200);
        due("end(200)", x.end(200), 200);
        due("end(199)", x.end(199), 200);
        due("end(199) again", x.end(199), 199);
        due("end(1)", x.end(1), 199);
        due("end(0)", x.end(0), 1);
        due("end(0) again", x.end(0), 0);
    }

    private static void fromNoneToAll() {
        promise.says("THE TAPE keeps its first n bytes. BAD");
        for (int had : new int[] {0, 1, 7, 8, 9, 199, 200}) {
            int[] ns = {Integer.MIN_VALUE, -1, 0, had - 1, had, had + 1, 201, Integer.MAX_VALUE};
            for (int n : ns) {
                SitterCircle x = Circles.filled(new SitterCircle(), "", had);
                boolean isFine = n >= 0 && n <= had;
                due("end(" + n + ") of " + had, x.end(n), isFine ? had : BAD);
                due("then it has", x.end(0), isFine ? n : had);
            }
        }
    }

    private static void badLeavesAll() {
        promise.says("what is refused changes nothing");
        // the tape of a busy circle has 15 bytes
        for (int n : new int[] {Integer.MIN_VALUE, -1, 16, 200, 201, Integer.MAX_VALUE}) {
            promise.refuses("end(" + n + ") of 15", Circles::busy, x -> x.end(n), BAD);
        }
        promise.refuses("end(201) of 200", Circles::full, x -> x.end(201), BAD);
        promise.refuses("end(1) of none", SitterCircle::new, x -> x.end(1), BAD);
        promise.same("end(15) of 15", Circles::busy, x -> x.end(15), x -> 0);
    }

    private static void theFirstBytesAreKept() {
        promise.says("keeps its first n bytes");
        String text = "issue 123;";
        int[] issue = {0, 0, 0, 0, 0, 0, 0, 1, 12, 123};
        for (int n = 7; n <= 9; n++) {
            SitterCircle x = Check.write(new SitterCircle(), text);
            x.end(n);
            x.feed(0x3b20202020202020L);
            due("vote of " + n + " and ;", x.vote(0), 0);
            due("its issue", x.rule(0, 0), issue[n]);
        }
        for (int n = 0; n <= 10; n++) {
            SitterCircle x = Check.write(new SitterCircle(), text);
            x.end(n);
            // a name that is cut is none of these, a text that is cut ends there
            int answer = n == 10 ? 0 : n >= 1 && n <= 4 ? -10 : -10 - n;
            due("vote of the first " + n, x.vote(0), answer);
        }
    }

    private static void theRestIsGone() {
        promise.says("keeps its first n bytes (no others)");
        SitterCircle x = Check.write(new SitterCircle(), "issue 3;");
        x.end(3);
        due("end(8) does not bring them back", x.end(8), BAD);
        due("end(4)", x.end(4), BAD);
        due("end(3)", x.end(3), 3);
        due("feed behind 3", x.feed(0), 11);
        x.end(0);
        due("feed behind none", x.feed(0x6465627420373b20L), 8);
        due("vote", x.vote(0), 0);
        due("rule(0, 4)", x.rule(0, 4), 7);
        due("end(0) of the voted tape", x.end(0), 0);
        due("end(1) of the voted tape", x.end(1), BAD);
    }
}
