/** Promise 25: offers. */
public final class Promise25OffersTest {
    private static final int BAD = SitterCircle.BAD;
    private static final int MIN = Integer.MIN_VALUE, MAX = Integer.MAX_VALUE;

    private static final Promise promise = new Promise(25, "offers");

    public static void main(String[] args) {
        wrongNumbers();
        nullFault();
        castFault();
        noneToTen();
        fromCellC();
        beyondTheCells();
        whatOfferRefuses();
        full();
        offerByOffer();
        theFirstThatFits();
        asOfferedOneByOne();
        refusedLeavesAll();
        promise.finish();
    }

    private static void due(String call, long got, long want) {
        promise.due(call, got, want);
    }

    /** Sheet 0 has as many offers of family 1 from 0 to 1, with some cells more. */
    private static SitterCircle sheetOf(int lane, int offers, int more) {
        SitterCircle x = Check.circle("issue 9;", 3);
        x.sheet(0, lane, 3 * offers + more);
        for (int i = 0; i < offers; i++) {
            x.lay(0, 3 * i, 1);
            x.lay(0, 3 * i + 2, 1);
        }
        return x;
    }

    private static void wrongNumbers() {
        promise.says("BAD: k, lane, n");
        SitterCircle x = sheetOf(0, 1, 0);
        for (int k : new int[] {MIN, -1, 4, 5, MAX}) {
            due("k " + k, x.offers(k, 0, 0, 0), BAD);
        }
        for (int lane : new int[] {MIN, -1, 2, 3, MAX}) {
            due("lane " + lane, x.offers(0, lane, 0, 0), BAD);
        }
        for (int n : new int[] {MIN, -1, 11, 12, MAX}) {
            due("n " + n, x.offers(0, 0, 0, n), BAD);
        }
        due("count(4)", x.count(4), 0);
        for (int k = 1; k < 4; k++) {
            x.sheet(k, 1, 3);
            due("k " + k, x.offers(k, 1, 0, 0), 0);
        }
        due("k 0", x.offers(0, 0, 0, 1), 1);
    }

    private static void nullFault() {
        promise.says("-10 less the FAULT: NULL");
        SitterCircle x = Check.circle("", 1);
        for (int k = 0; k < 4; k++) {
            for (int lane = 0; lane < 2; lane++) {
                for (int n : new int[] {0, 1, 10}) {
                    due("offers(" + k + ", " + lane + ", -5, " + n + ")", x.offers(k, lane, -5, n), -11);
                }
            }
            x.sheet(k, 0, 0);
            due("no cells are not nothing", x.offers(k, 0, 0, 0), 0);
        }
    }

    private static void castFault() {
        promise.says("3 CAST (another lane)");
        for (int lane = 0; lane < 2; lane++) {
            SitterCircle x = sheetOf(lane, 1, 0);
            due("of its lane", x.offers(0, lane, 0, 1), 1);
            for (int n : new int[] {0, 1, 10}) {
                due("of the other one", x.offers(0, 1 - lane, 0, n), -13);
            }
            due("count(4)", x.count(4), 1);
            x.sheet(1, lane, 0);
            due("with no cells", x.offers(1, 1 - lane, 0, 0), -13);
        }
    }

    private static void noneToTen() {
        promise.says("n (0 to 10) OFFERS are read: n");
        for (int lane = 0; lane < 2; lane++) {
            for (int n : new int[] {0, 1, 2, 9, 10}) {
                SitterCircle x = sheetOf(lane, 11, 0);
                due("offers(0, " + lane + ", 0, " + n + ")", x.offers(0, lane, 0, n), n);
                due("count(4)", x.count(4), n);
                due("the next offer", x.offer(0, 0, 1), n < 10 ? n : SitterCircle.FULL);
            }
            SitterCircle y = sheetOf(lane, 11, 0);
            due("n -1", y.offers(0, lane, 0, -1), BAD);
            due("n 11", y.offers(0, lane, 0, 11), BAD);
            // no cell is read for no offer, so none is out of the row
            for (int c : new int[] {MIN, -1, 0, 33, 34, MAX}) {
                due("none from " + c, y.offers(0, lane, c, 0), 0);
            }
        }
    }

    private static void fromCellC() {
        promise.says("of each FAMILY, from, to, from CELL c on");
        for (int lane = 0; lane < 2; lane++) {
            SitterCircle x = Circles.row(Check.circle("issue 9;", 4), 2, lane, 9, 1, 2, 3, 2, 3, 5, 3, 5, 8, 9);
            x.ask(0, 2, 3);
            x.ask(0, 3, 5);
            x.ask(0, 5, 8);
            due("three from 1 on", x.offers(2, lane, 1, 3), 3);
            for (int a = 0; a < 3; a++) {
                for (int o = 0; o < 3; o++) {
                    due("fits(" + a + ", " + o + ")", x.fits(a, o), a == o ? 1 : 0);
                }
                due("that family has an offer", x.leave(a + 1), SitterCircle.STATE);
            }
            x.bar(0, 2, true);
            due("the second is of family 2", x.met(), 2);
            due("from 0 on", x.offers(2, lane, 0, 1), -21);
            due("from 2 on: 2, 3, 2", x.offers(2, lane, 2, 1), -21);
            due("from 3 on: 3, 2, 3", x.offers(2, lane, 3, 1), 1);
            due("behind those that came", x.count(4), 4);
            due("of family 3, from 2 to 3", x.fits(0, 3), 1);
        }
    }

    private static void beyondTheCells() {
        promise.says("INDEX");
        for (int lane = 0; lane < 2; lane++) {
            for (int cells = 0; cells <= 6; cells++) {
                SitterCircle x = Check.circle("", 1);
                x.sheet(0, lane, cells);
                // each cell is 0, so that an offer that can be read has no half hour
                for (int c : new int[] {MIN, -3, -2, -1, 0, cells - 3, cells - 2, cells - 1, cells, cells + 1, MAX}) {
                    boolean isIn = c >= 0 && c <= cells - 3;
                    due("offers(0, " + lane + ", " + c + ", 1) of " + cells, x.offers(0, lane, c, 1), isIn ? -21 : -12);
                }
            }
            SitterCircle y = sheetOf(lane, 2, 0);
            due("two of two", y.offers(0, lane, 0, 2), 2);
            due("three of two", y.offers(0, lane, 0, 3), -12);
            due("two from 3 on", y.offers(0, lane, 3, 2), -12);
            due("one from 3 on", y.offers(0, lane, 3, 1), 1);
            due("ten near MAX", y.offers(0, lane, MAX - 1, 10), -12);
            due("ten from MAX on", y.offers(0, lane, MAX, 10), -12);
            due("two that begin before the row", y.offers(0, lane, -3, 2), -12);
            due("count(4)", y.count(4), 3);
            SitterCircle z = sheetOf(lane, 2, 1);
            due("a third with one cell", z.offers(0, lane, 0, 3), -12);
            z = sheetOf(lane, 2, 2);
            due("a third with two cells", z.offers(0, lane, 0, 3), -12);
            z = sheetOf(lane, 2, 3);
            due("a third with three cells", z.offers(0, lane, 0, 3), -21);
        }
        SitterCircle all = sheetOf(1, 20, 0);
        due("the last one of 60 cells", all.offers(0, 1, 57, 1), 1);
        due("from 58 on", all.offers(0, 1, 58, 1), -12);
        due("two from 54 on", all.offers(0, 1, 54, 2), 2);
        due("two from 57 on", all.offers(0, 1, 57, 2), -12);
    }

    private static void whatOfferRefuses() {
        promise.says("-20 and what offer() refuses: BAD");
        int[][] wrong = {{3, 0, 1}, {-1, 0, 1}, {2, 0, 1}, {1, -1, 1}, {1, 0, 49}, {1, 5, 5}, {1, 6, 5}, {1, 48, 48}};
        for (int lane = 0; lane < 2; lane++) {
            for (int[] w : wrong) {
                SitterCircle x = Circles.row(Check.circle("issue 9;", 3), 0, lane, w);
                x.leave(2);
                due(w[0] + ", " + w[1] + ", " + w[2], x.offers(0, lane, 0, 1), -21);
                due("count(4)", x.count(4), 0);
            }
            SitterCircle x = Circles.row(Check.circle("", 3), 0, lane, 2, 0, 48, 1, 47, 48);
            due("fine ones at the bounds", x.offers(0, lane, 0, 2), 2);
        }
    }

    private static void full() {
        promise.says("-20 and what offer() refuses: FULL");
        for (int had = 0; had <= 10; had++) {
            for (int n : new int[] {0, 10 - had, 11 - had}) {
                if (n <= 10) {
                    SitterCircle x = sheetOf(1, 11, 0);
                    for (int i = 0; i < had; i++) {
                        x.offer(0, 0, 1);
                    }
                    boolean isFine = had + n <= 10;
                    due(n + " behind " + had, x.offers(0, 1, 0, n), isFine ? n : -23);
                    due("count(4)", x.count(4), isFine ? had + n : had);
                }
            }
        }
    }

    private static void offerByOffer() {
        promise.says("then OFFER by OFFER; the first met: then none came");
        SitterCircle x = Circles.row(Check.circle("", 2), 0, 1, 0, 1, 2, 9, 9, 9, 1);
        due("the first alone", x.offers(0, 1, 0, 1), 1);
        due("the second is BAD, the third has no cells", x.offers(0, 1, 0, 3), -21);
        due("none came of these", x.count(4), 1);
        Circles.row(x, 0, 1, 0, 1, 2, 1, 0, 48, 1, 2);
        due("the third has no cells", x.offers(0, 1, 0, 3), -12);
        due("none came of these", x.count(4), 1);
        // nine came, the second is one too many before the third is BAD
        SitterCircle y = Circles.row(Check.circle("", 2), 0, 1, 0, 1, 2, 1, 0, 48, 7, 7, 7);
        for (int i = 0; i < 9; i++) {
            y.offer(0, 0, 1);
        }
        due("FULL before BAD", y.offers(0, 1, 0, 3), -23);
        due("nine still", y.count(4), 9);
        due("one is fine", y.offers(0, 1, 0, 1), 1);
        due("FULL before INDEX", y.offers(0, 1, 3, 3), -23);
        due("BAD of the one that is one too many", y.offers(0, 1, 6, 1), -21);
        due("INDEX of the one that is one too many", y.offers(0, 1, 7, 1), -12);
    }

    private static void theFirstThatFits() {
        promise.says("BAD: k, lane, n; NULL, CAST, then INDEX, -20: the first that fits");
        SitterCircle x = sheetOf(1, 1, 0);
        due("k ahead of NULL", x.offers(4, 0, 0, 1), BAD);
        due("lane ahead of NULL", x.offers(1, 2, 0, 1), BAD);
        due("n ahead of NULL", x.offers(1, 0, 0, 11), BAD);
        due("n ahead of CAST", x.offers(0, 0, 0, 11), BAD);
        due("n ahead of CAST, below 0", x.offers(0, 0, 0, -1), BAD);
        due("NULL ahead of INDEX", x.offers(1, 0, -1, 1), -11);
        due("CAST ahead of INDEX", x.offers(0, 0, -1, 1), -13);
        due("CAST ahead of what is refused", x.offers(0, 0, 0, 1), -13);
        due("INDEX", x.offers(0, 1, 1, 1), -12);
        // the family at its first cell is none, yet the third cell is not there
        Circles.row(x, 2, 1, 9, 9);
        due("INDEX ahead of what is refused", x.offers(2, 1, 0, 1), -12);
    }

    private static void asOfferedOneByOne() {
        promise.says("n OFFERS are read of a SHEET taken as of a lane");
        promise.same("offers(0, 0, 0, 3)", Circles::busy, x -> x.offers(0, 0, 0, 3), x -> {
            x.offer(1, 10, 20);
            x.offer(2, 5, 26);
            return x.offer(4, 0, 48);
        });
        promise.same("offers(1, 1, 3, 1)", Circles::busy, x -> x.offers(1, 1, 3, 1), x -> x.offer(2, 3, 34));
        promise.same("offers(2, 1, 0, 0)", Circles::busy, x -> x.offers(2, 1, 0, 0), x -> 0);
    }

    private static void refusedLeavesAll() {
        promise.says("the first met: then none came");
        int[][] wrong = {{-1, 0, 0, 1, BAD}, {4, 0, 0, 1, BAD}, {0, 2, 0, 1, BAD}, {0, -1, 0, 1, BAD},
            {0, 0, 0, 11, BAD}, {0, 0, 0, -1, BAD}, {3, 0, 0, 0, -11}, {3, 1, 0, 1, -11}, {0, 1, 0, 1, -13},
            {1, 0, 0, 1, -13}, {0, 0, 0, 4, -12}, {0, 0, -1, 1, -12}, {0, 0, 7, 1, -12}, {1, 1, 0, 3, -12},
            {1, 1, 4, 1, -21}, {0, 0, 1, 2, -21}, {2, 1, 0, 1, -12}};
        for (int[] w : wrong) {
            promise.refuses("offers(" + w[0] + ", " + w[1] + ", " + w[2] + ", " + w[3] + ")", Circles::busy,
                    x -> x.offers(w[0], w[1], w[2], w[3]), w[4]);
        }
        promise.refuses("one too many", Circles::full, x -> x.offers(0, 0, 57, 1), -23);
        promise.refuses("the second is one too many", () -> {
            SitterCircle x = sheetOf(0, 2, 0);
            x.ask(0, 0, 1);
            for (int i = 0; i < 9; i++) {
                x.offer(2, i, i + 1);
            }
            return x;
        }, x -> x.offers(0, 0, 0, 2), -23);
    }
}
