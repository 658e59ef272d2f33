/** Promise 24: lay. */
public final class Promise24LayTest {
    private static final int BAD = SitterCircle.BAD;
    private static final int MIN = Integer.MIN_VALUE, MAX = Integer.MAX_VALUE;

    private static final Promise promise = new Promise(24, "lay");

    public static void main(String[] args) {
        noSuchSheet();
        nullFault();
        indexFault();
        theFirstThatFits();
        oneCellAlone();
        lowestBitsOfBytes();
        allBitsOfInts();
        refusedLeavesAll();
        promise.finish();
    }

    private static void due(String call, long got, long want) {
        promise.due(call, got, want);
    }

    private static void noSuchSheet() {
        promise.says("BAD: k");
        SitterCircle x = new SitterCircle();
        for (int k = 0; k < 4; k++) {
            x.sheet(k, k % 2, 3);
        }
        for (int k : new int[] {MIN, -1, 0, 1, 2, 3, 4, 5, MAX}) {
            due("lay(" + k + ", 0, 0)", x.lay(k, 0, 0), k >= 0 && k <= 3 ? 1 : BAD);
        }
    }

    private static void nullFault() {
        promise.says("-10 less the FAULT: NULL");
        SitterCircle x = new SitterCircle();
        for (int k = 0; k < 4; k++) {
            due("lay(" + k + ", 0, 0) on nothing", x.lay(k, 0, 0), -11);
            x.sheet(k, 0, 1);
            due("lay(" + k + ", 0, 0)", x.lay(k, 0, 0), 1);
        }
    }

    private static void indexFault() {
        promise.says("-10 less the FAULT: INDEX");
        for (int lane = 0; lane < 2; lane++) {
            for (int n : new int[] {0, 1, 5, 60}) {
                SitterCircle x = new SitterCircle();
                x.sheet(0, lane, n);
                for (int i : new int[] {MIN, -1, 0, n - 1, n, n + 1, 60, 61, MAX}) {
                    due("lay(0, " + i + ", 7) of " + n, x.lay(0, i, 7), i >= 0 && i < n ? 1 : -12);
                }
            }
        }
    }

    private static void theFirstThatFits() {
        promise.says("BAD: k; NULL, INDEX: the first that fits");
        SitterCircle x = new SitterCircle();
        due("lay(-1, -1, 0)", x.lay(-1, -1, 0), BAD);
        due("lay(4, 0, 0)", x.lay(4, 0, 0), BAD);
        due("lay(0, -1, 0) on nothing", x.lay(0, -1, 0), -11);
        due("lay(0, 60, 0) on nothing", x.lay(0, 60, 0), -11);
        x.sheet(0, 0, 0);
        due("lay(0, 0, 0) on no cells", x.lay(0, 0, 0), -12);
    }

    private static void oneCellAlone() {
        promise.says("CELL i of a SHEET becomes v");
        for (int lane = 0; lane < 2; lane++) {
            for (int c : new int[] {0, 1, 30, 57}) {
                SitterCircle x = Check.circle("issue 9;", 3);
                x.sheet(1, lane, 60);
                x.sheet(2, lane, 60);
                x.ask(0, 4, 6);
                x.lay(1, c, 2);
                due("of no half hour", x.offers(1, lane, c, 1), -21);
                x.lay(1, c + 2, 6);
                due("family 2, 0 to 6", x.offers(1, lane, c, 1), 1);
                due("it fits", x.fits(0, 0), 1);
                x.lay(1, c + 1, 5);
                due("family 2, 5 to 6", x.offers(1, lane, c, 1), 1);
                due("it does not fit", x.fits(0, 1), 0);
                x.lay(1, c + 1, 4);
                due("family 2, 4 to 6", x.offers(1, lane, c, 1), 1);
                due("it fits again", x.fits(0, 2), 1);
                due("another sheet is as it was", x.offers(2, lane, c, 1), -21);
            }
        }
    }

    /** The answer of an offer whose family, from or to (which 0, 1, 2) is laid as v, the rest 1, 2, 4. */
    private static int offerWith(int lane, int which, int v) {
        SitterCircle x = Circles.row(Check.circle("", 12), 0, lane, 1, 2, 4);
        due("lay(0, " + which + ", " + v + ")", x.lay(0, which, v), 1);
        return x.offers(0, lane, 0, 1);
    }

    private static void lowestBitsOfBytes() {
        promise.says("becomes v (its lowest bits): BYTES");
        int[][] sames = {{0, 256}, {11, 267}, {1, -255}, {0, MIN}, {3, MIN + 3}, {0, 0x7fffff00}, {9, 0x12345609},
            {0, -256}, {11, 65536 + 11}};
        for (int[] same : sames) {
            due("as " + same[0], offerWith(0, 0, same[1]), 1);
        }
        due("12 is no family", offerWith(0, 0, 12), -21);
        due("256 + 12 is no family", offerWith(0, 0, 268), -21);
        due("127", offerWith(0, 0, 127), -21);
        due("128 is -128", offerWith(0, 0, 128), -21);
        due("255 is -1", offerWith(0, 0, 255), -21);
        due("-1", offerWith(0, 0, -1), -21);
        due("MAX is -1", offerWith(0, 0, MAX), -21);
        due("from 255 is -1", offerWith(0, 1, 255), -21);
        due("from 256 is 0", offerWith(0, 1, 256), 1);
        due("from 3", offerWith(0, 1, 256 + 3), 1);
        due("from 4 is no half hour", offerWith(0, 1, 256 + 4), -21);
        due("to 48", offerWith(0, 2, 256 + 48), 1);
        due("to 49", offerWith(0, 2, 256 + 49), -21);
        due("to 2 is no half hour", offerWith(0, 2, 256 + 2), -21);
        due("to 128 is below 0", offerWith(0, 2, 128), -21);
    }

    private static void allBitsOfInts() {
        promise.says("becomes v (its lowest bits): INTS");
        for (int v : new int[] {0, 1, 11}) {
            due("family " + v, offerWith(1, 0, v), 1);
        }
        for (int v : new int[] {12, 256, 267, -255, MIN, MIN + 3, MAX, 0x7fffff00, 65536, -1}) {
            due("family " + v, offerWith(1, 0, v), -21);
        }
        due("from 256", offerWith(1, 1, 256), -21);
        due("from -256", offerWith(1, 1, -256), -21);
        due("to 304", offerWith(1, 2, 304), -21);
        due("to 48", offerWith(1, 2, 48), 1);
    }

    private static void refusedLeavesAll() {
        promise.says("what is refused changes nothing");
        int[][] wrong = {{-1, 0, BAD}, {4, 0, BAD}, {3, 0, -11}, {3, -1, -11}, {0, -1, -12}, {0, 9, -12}, {0, MAX, -12},
            {1, 7, -12}, {1, MIN, -12}, {2, 0, -12}};
        for (int[] w : wrong) {
            promise.refuses("lay(" + w[0] + ", " + w[1] + ", 9)", Circles::busy, x -> x.lay(w[0], w[1], 9), w[2]);
        }
        promise.refuses("lay(0, 60, 9)", Circles::full, x -> x.lay(0, 60, 9), -12);
    }
}
