/** Promise 19: why. */
public final class Promise19WhyTest {
    private static final int BAD = SitterCircle.BAD;

    private static final Promise promise = new Promise(19, "why");

    public static void main(String[] args) {
        whats();
        nothingThere();
        allAreMet();
        noneFits();
        powersOfTwo();
        reached();
        soManyAsPairs();
        askedAgain();
        changesNothing();
        promise.finish();
    }

    private static void due(String call, long got, long want) {
        promise.due(call, got, want);
    }

    private static void why(String name, SitterCircle x, int asks, int offers) {
        due(name + ": why(0)", x.why(0), asks);
        due(name + ": why(1)", x.why(1), offers);
        due(name + ": so many as pairs", Integer.bitCount(asks) + Integer.bitCount(offers), x.met());
    }

    private static void whats() {
        promise.says("the ASKS (what 0), the OFFERS (1). BAD");
        SitterCircle x = Circles.grid(2, 1, 1, 2);
        due("why(0)", x.why(0), 4);
        due("why(1)", x.why(1), 1);
        for (int what : new int[] {Integer.MIN_VALUE, -1, 2, 3, Integer.MAX_VALUE}) {
            due("why(" + what + ")", x.why(what), BAD);
            due("why(" + what + ") of nothing", new SitterCircle().why(what), BAD);
        }
    }

    private static void nothingThere() {
        promise.says("of ASKS and OFFERS so many as THE MATCH has pairs: none");
        why("nothing", new SitterCircle(), 0, 0);
        why("asks alone", Circles.grid(0, 0, 0, 0), 0, 0);
        SitterCircle x = Check.circle("issue 9;", 1);
        x.offer(0, 0, 1);
        why("offers alone", x, 0, 0);
    }

    private static void allAreMet() {
        promise.says("begun with all ASKS that have none in THE MATCH: there are none such");
        why("one", Circles.grid(1, 1), 1, 0);
        why("one of three offers", Circles.grid(3, 7), 1, 0);
        why("three", Circles.grid(3, 7, 7, 7), 7, 0);
        why("two that give way", Circles.grid(2, 3, 1), 3, 0);
    }

    private static void noneFits() {
        promise.says("so that each pair that FITS has one of them: none FITS");
        why("one and one", Circles.grid(1, 0), 0, 0);
        why("three and three", Circles.grid(3, 0, 0, 0), 0, 0);
    }

    private static void powersOfTwo() {
        promise.says("the sum of 2 to the number of each");
        SitterCircle ten = Check.circle("issue 9;", 2);
        for (int i = 0; i < 10; i++) {
            ten.ask(0, 0, 1);
            ten.offer(1, 0, 1);
        }
        why("ten asks", ten, 1023, 0);
        SitterCircle last = Check.circle("issue 9;", 2);
        for (int i = 0; i < 9; i++) {
            last.ask(0, 0, 2);
        }
        last.ask(0, 0, 1);
        last.offer(1, 0, 1);
        last.offer(1, 0, 1);
        why("the last ask", last, 512, 0);
        why("the last offer", Circles.grid(10, 512, 512), 0, 512);
        why("the first offer", Circles.grid(10, 1, 1), 0, 1);
        SitterCircle nine = Check.circle("issue 9;", 2);
        for (int i = 0; i < 10; i++) {
            nine.ask(0, 0, 1);
        }
        for (int i = 0; i < 9; i++) {
            nine.offer(1, 0, 1);
        }
        why("nine offers for ten asks", nine, 0, 511);
    }

    private static void reached() {
        promise.says("REACHED are these, all OFFERS that FIT one, all ASKS that have such an OFFER, and so on");
        why("one step", Circles.grid(2, 1, 1, 2), 4, 1);
        why("two steps", Circles.grid(2, 1, 3, 2), 0, 3);
        why("two steps, over ask 0", Circles.grid(2, 3, 2, 1), 0, 3);
        why("two steps, from ask 0 to the last", Circles.grid(3, 5, 2, 4, 1), 2, 5);
        // ask 3 is left: offer 1, ask 1, offer 0, ask 0; asks 2, 4 and offers 2, 3 are apart
        why("apart from others", Circles.grid(4, 1, 3, 12, 2, 4), 20, 3);
        // ask 5 is left: offer 4, ask 4, offer 3, ask 3, .. down to ask 0
        why("five steps", Circles.grid(5, 1, 3, 6, 12, 24, 16), 0, 31);
        // an offer that fits only asks that are not reached is not reached
        why("an offer apart", Circles.grid(3, 1, 1, 6), 4, 1);
        chainOfTen();
    }

    /** Ask i + 1 fits the offers i and i + 1; the last ask fits the last offer alone and is left. */
    private static void chainOfTen() {
        SitterCircle x = Check.circle("issue 48;", 2);
        x.ask(0, 0, 1);
        for (int i = 1; i < 9; i++) {
            x.ask(0, 2 * i, 2 * i + 1);
        }
        x.ask(0, 18, 19);
        for (int i = 0; i < 9; i++) {
            x.offer(1, 2 * i, 2 * i + 3);
        }
        due("met", x.met(), 9);
        due("sitter(9)", x.sitter(9), SitterCircle.NONE);
        why("nine steps", x, 0, 511);
    }

    private static void soManyAsPairs() {
        promise.says("each pair that FITS has one of them");
        int[][] grids = {{1, 1, 6, 6}, {3, 3, 3, 4}, {7, 1, 1, 2}, {5, 5, 5, 2}, {2, 2, 4, 4}, {15, 8, 8, 8}};
        for (int[] rows : grids) {
            SitterCircle x = Circles.grid(4, rows);
            int asks = x.why(0);
            int offers = x.why(1);
            due("so many as pairs", Integer.bitCount(asks) + Integer.bitCount(offers), x.met());
            for (int a = 0; a < 4; a++) {
                due("offers that fit ask " + a, (asks >> a & 1) != 0 ? 0 : rows[a] & ~offers, 0);
            }
        }
    }

    private static void askedAgain() {
        promise.says("WHY no more: of what there is now");
        SitterCircle x = Circles.grid(2, 1, 1, 2);
        why("one goes without", x, 4, 1);
        x.broken(1);
        why("all are met", x, 3, 0);
        x.bar(0, 3, true);
        why("ask 0 fits none", x, 2, 0);
        x.bar(0, 3, false);
        x.ask(0, 0, 1);
        why("one goes without again", x, 2, 1);
        x.evening();
        why("nothing is there", x, 0, 0);
    }

    private static void changesNothing() {
        promise.says("what is refused changes nothing");
        promise.refuses("why(-1)", Circles::busy, x -> x.why(-1), BAD);
        promise.refuses("why(2)", Circles::busy, x -> x.why(2), BAD);
        promise.same("why(0)", Circles::busy, x -> x.why(0), x -> 0);
        promise.same("why(1)", Circles::full, x -> x.why(1), x -> 0);
    }
}
