/** Promise 23: sheet. */
public final class Promise23SheetTest {
    private static final int BAD = SitterCircle.BAD;

    private static final Promise promise = new Promise(23, "sheet");

    public static void main(String[] args) {
        noSuchSheet();
        lanes();
        alsoAboveSixty();
        belowZero();
        theFirstThatFits();
        cellsOfZero();
        aNewRow();
        refusedLeavesAll();
        promise.finish();
    }

    private static void due(String call, long got, long want) {
        promise.due(call, got, want);
    }

    private static void noSuchSheet() {
        promise.says("SHEETS 0 to 3: BAD");
        for (int k : new int[] {Integer.MIN_VALUE, -1, 0, 1, 2, 3, 4, 5, Integer.MAX_VALUE}) {
            SitterCircle x = new SitterCircle();
            due("sheet(" + k + ", 0, 3)", x.sheet(k, 0, 3), k >= 0 && k <= 3 ? 1 : BAD);
            for (int other = 0; other < 4; other++) {
                due("offers(" + other + ", 0, 0, 0)", x.offers(other, 0, 0, 0), other == k ? 0 : -11);
            }
        }
    }

    private static void lanes() {
        promise.says("rows of BYTES (lane 0), INTS (1): BAD");
        for (int lane : new int[] {Integer.MIN_VALUE, -1, 0, 1, 2, 3, Integer.MAX_VALUE}) {
            SitterCircle x = new SitterCircle();
            boolean isLane = lane == 0 || lane == 1;
            due("sheet(2, " + lane + ", 3)", x.sheet(2, lane, 3), isLane ? 1 : BAD);
            due("offers(2, 0, 0, 0)", x.offers(2, 0, 0, 0), !isLane ? -11 : lane == 0 ? 0 : -13);
            due("offers(2, 1, 0, 0)", x.offers(2, 1, 0, 0), !isLane ? -11 : lane == 1 ? 0 : -13);
        }
    }

    private static void alsoAboveSixty() {
        promise.says("with 0 to 60 CELLS. BAD: also n above 60");
        for (int lane = 0; lane < 2; lane++) {
            for (int n : new int[] {0, 1, 2, 59, 60}) {
                SitterCircle x = new SitterCircle();
                due("sheet(0, " + lane + ", " + n + ")", x.sheet(0, lane, n), 1);
                due("the last cell", x.lay(0, n - 1, 0), n == 0 ? -12 : 1);
                due("the one behind", x.lay(0, n, 0), -12);
            }
            for (int n : new int[] {61, 62, 1000, Integer.MAX_VALUE}) {
                SitterCircle x = new SitterCircle();
                due("sheet(0, " + lane + ", " + n + ")", x.sheet(0, lane, n), BAD);
                due("still nothing", x.lay(0, 0, 0), -11);
            }
        }
    }

    private static void belowZero() {
        promise.says("4 SIZE (below 0): -10 - 4");
        for (int lane = 0; lane < 2; lane++) {
            for (int n : new int[] {Integer.MIN_VALUE, -61, -2, -1}) {
                SitterCircle x = new SitterCircle();
                due("sheet(3, " + lane + ", " + n + ")", x.sheet(3, lane, n), -14);
                due("still nothing", x.lay(3, 0, 0), -11);
            }
            due("sheet(3, " + lane + ", 0)", new SitterCircle().sheet(3, lane, 0), 1);
        }
    }

    private static void theFirstThatFits() {
        promise.says("BAD; -10 - 4: the first that fits");
        SitterCircle x = new SitterCircle();
        due("sheet(-1, 0, -1)", x.sheet(-1, 0, -1), BAD);
        due("sheet(4, 0, -1)", x.sheet(4, 0, -1), BAD);
        due("sheet(0, -1, -1)", x.sheet(0, -1, -1), BAD);
        due("sheet(0, 2, -1)", x.sheet(0, 2, -1), BAD);
        due("sheet(0, 0, -1)", x.sheet(0, 0, -1), -14);
    }

    private static void cellsOfZero() {
        promise.says("a new row of CELLS 0");
        for (int lane = 0; lane < 2; lane++) {
            SitterCircle x = Check.circle("issue 9;", 2);
            x.sheet(0, lane, 60);
            x.ask(1, 0, 1);
            // with a third cell of 1 there is an offer of family 0 from 0 to 1 wherever the rest is 0
            for (int c = 0; c <= 57; c += 3) {
                due("no half hour at " + c, x.offers(0, lane, c, 1), -21);
                x.lay(0, c + 2, 1);
                if (c < 30) {
                    due("an offer at " + c, x.offers(0, lane, c, 1), 1);
                    due("it fits", x.fits(0, c / 3), 1);
                } else {
                    due("an offer at " + c, x.offers(0, lane, c, 1), -23);
                }
            }
        }
    }

    private static void aNewRow() {
        promise.says("A SHEET is a new row");
        for (int lane = 0; lane < 2; lane++) {
            for (int before = 0; before < 2; before++) {
                SitterCircle x = Circles.row(Check.circle("", 2), 1, before, 1, 0, 5, 1, 0, 5);
                Circles.row(x, 2, before, 1, 0, 5);
                due("of what was there", x.offers(1, before, 0, 1), 1);
                due("sheet(1, " + lane + ", 3)", x.sheet(1, lane, 3), 1);
                due("it is of zeros", x.offers(1, lane, 0, 1), -21);
                due("of three cells", x.lay(1, 3, 0), -12);
                due("of that lane alone", x.offers(1, 1 - lane, 0, 0), -13);
                due("the other sheet stays", x.offers(2, before, 0, 1), 1);
                due("a longer one", x.sheet(1, lane, 9), 1);
                due("has these cells", x.lay(1, 8, 0), 1);
                due("the offers that came stay", x.count(4), 2);
            }
        }
    }

    private static void refusedLeavesAll() {
        promise.says("what is refused changes nothing");
        for (int k = 0; k < 4; k++) {
            int sheet = k;
            for (int lane = 0; lane < 2; lane++) {
                int of = lane;
                promise.refuses("sheet(" + k + ", " + lane + ", 61)", Circles::busy, x -> x.sheet(sheet, of, 61), BAD);
                promise.refuses("sheet(" + k + ", " + lane + ", -1)", Circles::busy, x -> x.sheet(sheet, of, -1), -14);
            }
            promise.refuses("sheet(" + k + ", 2, 9)", Circles::busy, x -> x.sheet(sheet, 2, 9), BAD);
            promise.refuses("sheet(" + k + ", -1, 9)", Circles::busy, x -> x.sheet(sheet, -1, 9), BAD);
        }
        promise.refuses("sheet(4, 0, 9)", Circles::busy, x -> x.sheet(4, 0, 9), BAD);
        promise.refuses("sheet(-1, 0, 9)", Circles::busy, x -> x.sheet(-1, 0, 9), BAD);
    }
}
