/** Promises 13 to 22: asks and offers, the match, why no more, breaks, the evening held. */
public final class EveningTest {
    private static final int BAD = SitterCircle.BAD, FULL = SitterCircle.FULL, NONE = SitterCircle.NONE;

    private static final Check check = new Check("EveningTest");

    public static void main(String[] args) {
        asksAndOffers();
        price();
        fits();
        fitsByDebt();
        match();
        matchPrefersAskZero();
        why();
        would();
        broken();
        evening();
        eveningPaysInOrder();
        wrongNumbers();
        check.finish();
    }

    private static void due(String call, long got, long want) {
        check.due(call, got, want);
    }

    private static int put(SitterCircle x, boolean isAsk, int f, int from, int to) {
        return isAsk ? x.ask(f, from, to) : x.offer(f, from, to);
    }

    private static void asksAndOffers() {
        for (int side = 0; side < 2; side++) {
            boolean isAsk = side == 0;
            String s = isAsk ? "ask " : "offer ";
            SitterCircle x = Check.circle("issue 3;", 2);
            due(s + "of no family", put(x, isAsk, 2, 0, 1), BAD);
            due(s + "of family -1", put(x, isAsk, -1, 0, 1), BAD);
            due(s + "from -1", put(x, isAsk, 0, -1, 1), BAD);
            due(s + "to 49", put(x, isAsk, 0, 0, 49), BAD);
            due(s + "from 48", put(x, isAsk, 0, 48, 48), BAD);
            due(s + "no half hour", put(x, isAsk, 0, 7, 7), BAD);
            due(s + "backwards", put(x, isAsk, 0, 8, 7), BAD);
            due(s + "to MIN", put(x, isAsk, 0, 8, Integer.MIN_VALUE), BAD);
            due(s + "from MAX", put(x, isAsk, 0, Integer.MAX_VALUE, 48), BAD);
            due(s + "all day", put(x, isAsk, 0, 0, 48), 0);
            due(s + "the last", put(x, isAsk, 1, 47, 48), 1);
            for (int i = 2; i < 10; i++) {
                due(s + i, put(x, isAsk, 0, 0, 1), i);
            }
            due(s + "eleventh", put(x, isAsk, 0, 0, 1), FULL);
            due(s + "eleventh and bad", put(x, isAsk, 0, 1, 1), BAD);
            due("count", x.count(isAsk ? 3 : 4), 10);
            due("count of the others", x.count(isAsk ? 4 : 3), 0);
        }
    }

    private static void price() {
        SitterCircle x = Check.circle("", 1);
        x.ask(0, 0, 48);
        x.ask(0, 10, 20);
        x.ask(0, 15, 16);
        due("plain", x.price(0), 48);
        Check.write(x, "double 15;").vote(0);
        due("from 15 on twice", x.price(0), 48 + 33);
        due("half of it", x.price(1), 15);
        due("all of it", x.price(2), 2);
        Check.write(x, "double 16;").vote(0);
        due("none of it", x.price(2), 1);
        due("four of it", x.price(1), 14);
        Check.write(x, "double 0;").vote(0);
        due("all twice", x.price(0), 96);
        Check.write(x, "double 47;").vote(0);
        due("the last twice", x.price(0), 49);
        Check.write(x, "debt 1;").vote(0);
        due("no double again", x.price(0), 48);
        due("price(3)", x.price(3), BAD);
        due("price(-1)", x.price(-1), BAD);
    }

    private static void fits() {
        SitterCircle x = Check.circle("issue 50;", 3);
        x.ask(0, 10, 20);
        x.offer(1, 10, 20);
        x.offer(1, 11, 20);
        x.offer(1, 10, 19);
        x.offer(1, 9, 21);
        x.offer(0, 0, 48);
        int[] want = {1, 0, 0, 1, 0};
        for (int o = 0; o < want.length; o++) {
            due("fits(0, " + o + ")", x.fits(0, o), want[o]);
        }
        x.bar(0, 1, true);
        due("the asking one bars", x.fits(0, 0), 0);
        x.bar(0, 1, false);
        x.bar(1, 0, true);
        due("the offering one bars", x.fits(0, 0), 0);
        x.bar(1, 0, false);
        x.bar(1, 2, true);
        x.bar(2, 0, true);
        due("others bar", x.fits(0, 0), 1);
    }

    private static void fitsByDebt() {
        SitterCircle x = Check.circle("issue 4; debt 3;", 2);
        x.ask(0, 0, 7);
        x.ask(0, 0, 8);
        x.ask(0, 0, 7);
        x.offer(1, 0, 48);
        due("seven", x.fits(0, 0), 1);
        due("eight", x.fits(1, 0), 0);
        due("each for itself", x.fits(2, 0), 1);
        Check.write(x, "debt 4;").vote(0);
        due("eight by another text", x.fits(1, 0), 1);
        // one that owes more than the debt of today may not pay even with notes to come
        SitterCircle y = Check.circle("late 9;", 2);
        y.ask(0, 0, 1);
        y.offer(1, 0, 1);
        due("no pair, no pay", y.broken(0), 0);
        Check.write(y, "late 9; debt 2;").vote(0);
        y.ask(0, 0, 1);
        due("late beyond the debt", y.broken(0), 9);
        due("owes nine", y.told(0, 1), 9);
        y.ask(0, 0, 1);
        due("owes too much", y.fits(0, 0), 0);
    }

    private static void matchIs(String name, int[] rows, int offers, int[] sitters, int asks, int offersWhy) {
        SitterCircle x = Circles.grid(offers, rows);
        int met = 0;
        for (int a = 0; a < sitters.length; a++) {
            due(name + " sitter(" + a + ")", x.sitter(a), sitters[a]);
            met += sitters[a] == NONE ? 0 : 1;
        }
        due(name + " met", x.met(), met);
        due(name + " why(0)", x.why(0), asks);
        due(name + " why(1)", x.why(1), offersWhy);
    }

    private static void match() {
        matchIs("nothing fits", new int[] {0, 0}, 2, new int[] {NONE, NONE}, 0, 0);
        matchIs("all fit", new int[] {7, 7, 7}, 3, new int[] {0, 1, 2}, 7, 0);
        matchIs("0 gives way", new int[] {3, 1}, 2, new int[] {1, 0}, 3, 0);
        matchIs("a chain", new int[] {3, 6, 12, 1}, 4, new int[] {1, 2, 3, 0}, 15, 0);
        matchIs("0 keeps the least", new int[] {6, 6, 1}, 3, new int[] {1, 2, 0}, 7, 0);
        matchIs("0 has one only", new int[] {4, 4, 4}, 3, new int[] {2, NONE, NONE}, 0, 4);
        matchIs("1 has none at all", new int[] {1, 0, 3}, 2, new int[] {0, NONE, 1}, 5, 0);
    }

    private static void matchPrefersAskZero() {
        // one of the asks goes without whatever one does: the last one
        matchIs("two for three", new int[] {3, 3, 3}, 2, new int[] {0, 1, NONE}, 0, 3);
        matchIs("rather any than none", new int[] {2, 3, 3}, 2, new int[] {1, 0, NONE}, 0, 3);
        matchIs("1 goes without", new int[] {1, 1, 6, 6}, 3, new int[] {0, NONE, 1, 2}, 12, 1);
        matchIs("the most come first", new int[] {1, 3, 2}, 2, new int[] {0, 1, NONE}, 0, 3);
    }

    private static void why() {
        // asks 0, 1 fight for offer 0; ask 2 has two for itself
        matchIs("why some", new int[] {1, 1, 6}, 3, new int[] {0, NONE, 1}, 4, 1);
        // reached over the match: ask 3 unmatched, offers 0 1 reached in turn
        matchIs("why over the match", new int[] {1, 3, 12, 2, 4}, 4,
                new int[] {0, 1, 3, NONE, 2}, 20, 3);
        SitterCircle x = Check.circle("issue 9;", 2);
        due("why(2)", x.why(2), BAD);
        due("why(-1)", x.why(-1), BAD);
        for (int i = 0; i < 10; i++) {
            x.ask(0, 0, 1);
            x.offer(1, 0, 1);
        }
        due("why(0) of ten", x.why(0), 1023);
        due("why(1) of ten", x.why(1), 0);
        due("met of ten", x.met(), 10);
        due("sitter of the last", x.sitter(9), 9);
        x.broken(9);
        due("met of nine", x.met(), 9);
        due("why(0) of nine", x.why(0), 511);
    }

    private static void would() {
        SitterCircle x = Check.circle("issue 2; debt 5; double 0;", 4);
        x.ask(0, 0, 1);
        x.ask(1, 0, 3);
        x.ask(2, 0, 40);
        x.offer(3, 0, 48);
        x.offer(3, 0, 48);
        x.offer(3, 0, 48);
        due("met", x.met(), 2);
        due("would(0)", x.would(0), 1);
        due("would(3)", x.would(3), 1);
        due("would(4)", x.would(4), 2);
        due("would(77)", x.would(77), 2);
        due("would(78)", x.would(78), 3);
        due("would(1000)", x.would(1000), 3);
        due("would(1001)", x.would(1001), BAD);
        due("would(-1)", x.would(-1), BAD);
        due("met still", x.met(), 2);
        due("sitter(2) still", x.sitter(2), NONE);
        due("rule still", x.rule(0, 4), 5);
    }

    private static void broken() {
        SitterCircle x = Check.circle("issue 3; late 5;", 4);
        x.ask(0, 0, 1);
        x.ask(1, 0, 48);
        x.ask(2, 0, 2);
        x.offer(3, 0, 48);
        x.offer(3, 0, 1);
        due("sitter(0)", x.sitter(0), 1);
        due("no offer, no late", x.broken(1), 0);
        due("1 keeps its notes", x.told(1, 0), 3);
        due("asks", x.count(3), 2);
        due("ask 2 is 1 now", x.price(1), 2);
        due("sitter(1)", x.sitter(1), 0);
        due("broken(0)", x.broken(0), 5);
        due("0 has none", x.told(0, 0), 0);
        due("0 owes two, debt or not", x.told(0, 1), 2);
        due("3 has eight", x.told(3, 0), 8);
        due("came", x.count(7), 14);
        due("the offers stay", x.count(4), 2);
        due("asks", x.count(3), 1);
        due("ask 1 is 0 now", x.price(0), 2);
        due("broken(1)", x.broken(1), BAD);
        due("broken(-1)", x.broken(-1), BAD);
        due("evening", x.evening(), 1);
        due("broken none", x.broken(0), BAD);
        due("sat", x.told(3, 3), 2);
        due("0 was never sat for", x.told(0, 4), 0);
    }

    private static void evening() {
        SitterCircle x = Check.circle("issue 9;", 3);
        due("nothing to hold", x.evening(), 0);
        x.ask(0, 0, 2);
        x.ask(1, 5, 9);
        x.offer(2, 5, 9);
        x.offer(1, 0, 2);
        due("both", x.evening(), 2);
        due("asks", x.count(3), 0);
        due("offers", x.count(4), 0);
        due("0", x.told(0, 0), 7);
        due("1", x.told(1, 0), 7);
        due("2", x.told(2, 0), 13);
        due("1 sat", x.told(1, 3), 2);
        due("1 was sat for", x.told(1, 4), 1);
        due("2 sat", x.told(2, 3), 4);
        due("0 was sat for", x.told(0, 4), 1);
        due("none new", x.count(7), 27);
    }

    private static void eveningPaysInOrder() {
        // two asks that fit each for itself, yet only one can be paid
        SitterCircle x = Check.circle("issue 5;", 3);
        x.ask(0, 0, 4);
        x.ask(0, 4, 8);
        x.ask(0, 8, 9);
        x.offer(1, 0, 48);
        x.offer(1, 0, 48);
        x.offer(2, 0, 48);
        due("three fit", x.met(), 3);
        due("two are held", x.evening(), 2);
        due("0", x.told(0, 0), 0);
        due("0 was sat for", x.told(0, 4), 2);
        due("1", x.told(1, 0), 9);
        due("1 sat", x.told(1, 3), 4);
        due("2 sat", x.told(2, 3), 1);
        due("2", x.told(2, 0), 6);
        // what an earlier ask brings in pays a later one
        SitterCircle y = Check.circle("issue 2; debt 1;", 2);
        y.ask(1, 0, 3);
        y.ask(0, 0, 3);
        y.offer(0, 0, 3);
        y.offer(1, 0, 3);
        due("both held", y.evening(), 2);
        due("1 owes nothing then", y.told(1, 1), 0);
        due("0 owes nothing", y.told(0, 1), 0);
        due("0 has two", y.told(0, 0), 2);
        due("1 has two", y.told(1, 0), 2);
        due("one was given up", y.count(9), 1);
    }

    private static void wrongNumbers() {
        SitterCircle x = Check.circle("issue 5;", 2);
        due("sitter(0)", x.sitter(0), BAD);
        due("fits(0, 0)", x.fits(0, 0), BAD);
        x.ask(0, 0, 1);
        due("sitter(0) with no offer", x.sitter(0), NONE);
        due("sitter(1)", x.sitter(1), BAD);
        due("sitter(-1)", x.sitter(-1), BAD);
        due("fits(0, 0) with no offer", x.fits(0, 0), BAD);
        x.offer(1, 0, 1);
        due("fits(0, 0) then", x.fits(0, 0), 1);
        due("fits(1, 0)", x.fits(1, 0), BAD);
        due("fits(-1, 0)", x.fits(-1, 0), BAD);
        due("fits(0, -1)", x.fits(0, -1), BAD);
        due("fits(0, 1)", x.fits(0, 1), BAD);
    }
}
