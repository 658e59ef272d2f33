/** Promise 11: bar. */
public final class Promise11BarTest {
    private static final int BAD = SitterCircle.BAD;

    private static final Promise promise = new Promise(11, "bar");

    public static void main(String[] args) {
        noSuchFamily();
        alsoItself();
        whetherItDid();
        eachForItself();
        refusedLeavesAll();
        promise.finish();
    }

    private static void due(String call, long got, long want) {
        promise.due(call, got, want);
    }

    private static void noSuchFamily() {
        promise.says("BAD: there is no such FAMILY");
        for (int came : new int[] {2, 5, 12}) {
            SitterCircle x = Check.circle("", came);
            for (int f : new int[] {Integer.MIN_VALUE, -32, -1, came, came + 1, 12, 32, 33, Integer.MAX_VALUE}) {
                due("bar(" + f + ", 0, true) of " + came, x.bar(f, 0, true), BAD);
                due("bar(0, " + f + ", true) of " + came, x.bar(0, f, true), BAD);
                due("bar(" + f + ", " + f + ", true) of " + came, x.bar(f, f, true), BAD);
            }
            due("the last one", x.bar(came - 1, 0, true), 0);
            due("the last one barred", x.bar(0, came - 1, true), 0);
        }
        SitterCircle y = Check.circle("", 3);
        y.leave(1);
        due("one that left", y.bar(1, 0, true), BAD);
        due("one that left barred", y.bar(0, 1, true), BAD);
        due("those that are there", y.bar(0, 2, true), 0);
    }

    private static void alsoItself() {
        promise.says("BAD: also itself");
        SitterCircle x = Check.circle("", 12);
        for (int f = 0; f < 12; f++) {
            due("bar(" + f + ", " + f + ", true)", x.bar(f, f, true), BAD);
            due("bar(" + f + ", " + f + ", false)", x.bar(f, f, false), BAD);
            due("bar of the next", x.bar(f, (f + 1) % 12, true), 0);
        }
    }

    private static void whetherItDid() {
        promise.says("whether it did (1, 0)");
        SitterCircle x = Check.circle("", 2);
        due("on", x.bar(0, 1, true), 0);
        due("on again", x.bar(0, 1, true), 1);
        due("off", x.bar(0, 1, false), 1);
        due("off again", x.bar(0, 1, false), 0);
        due("on once more", x.bar(0, 1, true), 0);
        due("off once more", x.bar(0, 1, false), 1);
    }

    private static void eachForItself() {
        promise.says("Whether f BARS another one");
        for (int f = 0; f < 12; f++) {
            SitterCircle x = Check.circle("", 12);
            int g = (f + 11) % 12;
            x.bar(f, g, true);
            for (int a = 0; a < 12; a++) {
                for (int b = 0; b < 12; b++) {
                    if (a != b) {
                        int did = a == f && b == g ? 1 : 0;
                        due("bar(" + a + ", " + b + ", false) when " + f + " bars " + g, x.bar(a, b, false), did);
                    }
                }
            }
        }
        SitterCircle y = Check.circle("", 3);
        y.bar(0, 1, true);
        y.bar(0, 2, true);
        y.bar(0, 1, false);
        due("the other bar stays", y.bar(0, 2, true), 1);
        y.leave(1);
        due("and when another one leaves", y.bar(0, 2, true), 1);
    }

    private static void refusedLeavesAll() {
        promise.says("what is refused changes nothing");
        int[][] pairs = {{0, 0}, {1, 1}, {3, 1}, {1, 3}, {3, 3}, {5, 1}, {1, 5}, {-1, 1}, {1, -1}, {1, 34}, {34, 1}};
        for (int[] p : pairs) {
            for (boolean on : new boolean[] {false, true}) {
                promise.refuses("bar(" + p[0] + ", " + p[1] + ", " + on + ")", Circles::busy,
                        x -> x.bar(p[0], p[1], on), BAD);
            }
        }
        promise.same("on twice", Circles::busy, x -> x.bar(1, 2, true), x -> 0);
        promise.same("off twice", Circles::busy, x -> x.bar(2, 1, false), x -> 0);
    }
}
