/** Promise 5: fault. */
public final class Promise05FaultTest {
    private static final int BAD = SitterCircle.BAD, FULL = SitterCircle.FULL, NONE = SitterCircle.NONE;

    private static final Promise promise = new Promise(5, "fault");

    public static void main(String[] args) {
        zeroAtFirst();
        ofTheLatestVote();
        notOfBadVotes();
        notOfFullVotes();
        changesNothing();
        promise.finish();
    }

    private static void due(String call, long got, long want) {
        promise.due(call, got, want);
    }

    private static int faultOf(SitterCircle x, String text) {
        x.end(0);
        Check.write(x, text).vote(x.count(2));
        return x.fault();
    }

    private static void zeroAtFirst() {
        promise.says("0");
        SitterCircle x = new SitterCircle();
        due("at first", x.fault(), 0);
        x.vote(-1);
        due("after one that was BAD", x.fault(), 0);
        Check.write(x, "foo");
        due("before a faulty tape is voted", x.fault(), 0);
    }

    private static void ofTheLatestVote() {
        promise.says("The FAULT of the latest vote()");
        SitterCircle x = new SitterCircle();
        due("1", faultOf(x, "foo"), 1);
        due("2", faultOf(x, "late"), 2);
        due("3", faultOf(x, "late 51;"), 3);
        due("4", faultOf(x, "late 1;late 1;"), 4);
        due("none", faultOf(x, "late 1;"), 0);
        due("1 again", faultOf(x, "?"), 1);
        due("of an empty tape", faultOf(x, ""), 2);
        due("4 behind 2", faultOf(x, "debt 1;debt 1;"), 4);
        due("none behind 4", faultOf(x, "debt 1;"), 0);
        due("texts", x.count(1), 2);
        due("unwind()", x.unwind(), SitterCircle.STATE);
        due("after unwind()", x.fault(), 0);
    }

    private static void notOfBadVotes() {
        promise.says("that was not BAD");
        for (int day : new int[] {-1, 2001}) {
            SitterCircle x = new SitterCircle();
            faultOf(x, "late 51;");
            Check.write(x, "foo");
            due("vote(" + day + ")", x.vote(day), BAD);
            due("the one before", x.fault(), 3);
            x.end(0);
            Check.write(x, "late 1;");
            due("vote(" + day + ") of a fine text", x.vote(day), BAD);
            due("still the one before", x.fault(), 3);
            due("unwind()", x.unwind(), NONE);
            due("after unwind()", x.fault(), 3);
            due("vote(0) of it", x.vote(0), 0);
            due("none", x.fault(), 0);
        }
    }

    private static void notOfFullVotes() {
        promise.says("that was not FULL");
        SitterCircle x = new SitterCircle();
        for (int i = 0; i < 5; i++) {
            due("text " + i, faultOf(x, "late 1;"), 0);
        }
        due("a faulty one", faultOf(x, "late 1;late 1;"), 4);
        Check.write(x, "late 1;").vote(3);
        due("the sixth", x.fault(), 0);
        Check.write(x, "foo");
        due("vote when full", x.vote(0), FULL);
        due("the one before", x.fault(), 0);
        due("unwind()", x.unwind(), 5);
        due("vote with room", x.vote(0), -10);
        due("its fault", x.fault(), 1);
        x.end(0);
        Check.write(x, "late 1;").vote(3);
        due("none", x.fault(), 0);
        Check.write(x, "late 1;late 1;");
        due("vote when full again", x.vote(0), FULL);
        due("none still", x.fault(), 0);
    }

    private static void changesNothing() {
        promise.says("fault(): what it tells stays");
        promise.same("fault()", Circles::busy, SitterCircle::fault, x -> 0);
        SitterCircle x = new SitterCircle();
        faultOf(x, "late");
        due("once", x.fault(), 2);
        due("twice", x.fault(), 2);
        x.go(1);
        x.join();
        x.feed(0);
        due("after other calls", x.fault(), 2);
    }
}
