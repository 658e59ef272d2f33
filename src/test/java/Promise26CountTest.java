/** Promise 26: count. */
public final class Promise26CountTest {
    private static final int BAD = SitterCircle.BAD;

    private static final Promise promise = new Promise(26, "count");

    public static void main(String[] args) {
        whats();
        familiesThatThereAre();
        texts();
        theDay();
        asks();
        offers();
        notesAndDebts();
        everCame();
        expired();
        givenUp();
        theSumHolds();
        changesNothing();
        promise.finish();
    }

    private static void due(String call, long got, long want) {
        promise.due(call, got, want);
    }

    private static void whats() {
        promise.says("How many: 0 .. 9. BAD");
        SitterCircle x = Circles.busy();
        // 30 issued and 2 new ones; 6 were given up by the one that left
        int[] want = {4, 3, 3, 3, 3, 26, 2, 32, 0, 6};
        for (int what = 0; what < 10; what++) {
            due("count(" + what + ")", x.count(what), want[what]);
        }
        for (int what : new int[] {Integer.MIN_VALUE, -2, -1, 10, 11, Integer.MAX_VALUE}) {
            due("count(" + what + ")", x.count(what), BAD);
            due("count(" + what + ") of nothing", new SitterCircle().count(what), BAD);
        }
    }

    private static void familiesThatThereAre() {
        promise.says("0 FAMILIES that there are");
        SitterCircle x = new SitterCircle();
        for (int f = 0; f < 12; f++) {
            x.join();
            due("joined " + f, x.count(0), f + 1);
        }
        x.join();
        due("a thirteenth", x.count(0), 12);
        for (int f = 0; f < 12; f++) {
            x.leave(f);
            due("left " + f, x.count(0), 11 - f);
        }
    }

    private static void texts() {
        promise.says("1 TEXTS");
        SitterCircle x = new SitterCircle();
        for (int i = 0; i < 6; i++) {
            Check.write(x, "late 1;").vote(5);
            due("voted " + i, x.count(1), i + 1);
        }
        Check.write(x, "late 1;").vote(5);
        due("a seventh", x.count(1), 6);
        x.unwind();
        due("taken back", x.count(1), 5);
        x.end(0);
        Check.write(x, "late").vote(5);
        due("a faulty one", x.count(1), 5);
    }

    private static void theDay() {
        promise.says("2 the DAY");
        SitterCircle x = new SitterCircle();
        due("day 0", x.count(2), 0);
        x.go(1);
        due("day 1", x.count(2), 1);
        x.go(101);
        due("a refused go", x.count(2), 1);
        due("day 2000", Circles.onDay(x, 2000).count(2), 2000);
        x.go(1);
        due("day 2000 still", x.count(2), 2000);
    }

    private static void asks() {
        promise.says("3 ASKS");
        SitterCircle x = Check.circle("", 2);
        for (int i = 0; i < 10; i++) {
            x.ask(0, 0, 1);
            due("asked " + i, x.count(3), i + 1);
        }
        x.ask(0, 0, 1);
        due("an eleventh", x.count(3), 10);
        x.broken(0);
        due("one is broken", x.count(3), 9);
        due("offers", x.count(4), 0);
        x.evening();
        due("after the evening", x.count(3), 0);
    }

    private static void offers() {
        promise.says("4 OFFERS");
        SitterCircle x = Check.circle("", 2);
        for (int i = 0; i < 10; i++) {
            x.offer(0, 0, 1);
            due("offered " + i, x.count(4), i + 1);
        }
        x.offer(0, 0, 1);
        due("an eleventh", x.count(4), 10);
        due("asks", x.count(3), 0);
        x.evening();
        due("after the evening", x.count(4), 0);
        Circles.row(x, 0, 0, 0, 0, 1, 1, 0, 1);
        x.offers(0, 0, 0, 2);
        due("read of a sheet", x.count(4), 2);
    }

    private static void notesAndDebts() {
        promise.says("5 NOTES that all have, 6 that all OWE");
        SitterCircle x = Check.circle("issue 200; debt 100;", 12);
        due("12 times 200", x.count(5), 2400);
        due("none owes", x.count(6), 0);
        x.leave(0);
        due("11 times 200", x.count(5), 2200);
        SitterCircle y = Check.circle("debt 100;", 3);
        due("none", y.count(5), 0);
        Circles.sit(y, 0, 2, 1);
        due("a new one", y.count(5), 1);
        due("it is owed", y.count(6), 1);
        Circles.sit(y, 1, 2, 48);
        due("49", y.count(5), 49);
        due("two owe", y.count(6), 49);
        Circles.sit(y, 2, 1, 48);
        due("48 given up", y.count(5), 1);
        due("one owes", y.count(6), 1);
        Circles.sit(y, 2, 0, 1);
        due("none is left", y.count(5), 0);
        due("none owes again", y.count(6), 0);
    }

    private static void everCame() {
        promise.says("7 NOTES that ever came (issued, new ones)");
        SitterCircle x = Check.circle("issue 3; debt 2; expire 1; late 4;", 2);
        due("issued", x.count(7), 6);
        Circles.sit(x, 0, 1, 3);
        due("those that are moved are not new", x.count(7), 6);
        Circles.sit(x, 0, 1, 1);
        due("one is new", x.count(7), 7);
        x.ask(0, 0, 1);
        x.offer(1, 0, 1);
        due("broken(0)", x.broken(0), 4);
        due("four for late are new", x.count(7), 11);
        x.evening();
        x.go(2);
        due("though they expired", x.count(7), 11);
        x.leave(1);
        due("though one left", x.count(7), 11);
        x.join();
        due("issued again", x.count(7), 14);
    }

    private static void expired() {
        promise.says("8 expired");
        SitterCircle x = Check.circle("issue 3; expire 1;", 2);
        x.go(1);
        due("day 1", x.count(8), 0);
        x.join();
        x.leave(0);
        x.go(1);
        due("day 2: those of the one that left are none", x.count(8), 3);
        x.go(1);
        due("day 3", x.count(8), 6);
        x.go(1);
        due("day 4: no more", x.count(8), 6);
        due("none was given up by it", x.count(9), 3);
    }

    private static void givenUp() {
        promise.says("9 given up (for what was OWED, by leaving)");
        SitterCircle x = Check.circle("issue 2; debt 5; late 1;", 3);
        Circles.sit(x, 0, 1, 4);
        due("none yet", x.count(9), 0);
        Circles.sit(x, 1, 0, 1);
        due("one for what it owed", x.count(9), 1);
        x.ask(1, 0, 1);
        x.offer(0, 0, 1);
        x.broken(0);
        due("one of a late pay", x.count(9), 2);
        x.evening();
        Circles.sit(x, 1, 0, 1);
        due("it owes no more", x.count(9), 2);
        due("leave(2)", x.leave(2), 2);
        due("by leaving", x.count(9), 4);
        due("leave(0)", x.leave(0), 1);
        due("by leaving, too", x.count(9), 5);
    }

    private static void theSumHolds() {
        promise.says("NOTES that ever came are had, expired or given up");
        SitterCircle x = Circles.full();
        for (int i = 0; i < 20; i++) {
            x.ask(i % 10, 0, 1 + i % 7);
            x.offer((i + 3) % 10, 0, 9);
            x.broken(1);
            x.evening();
            x.go(1);
            due("round " + i, x.count(5) + x.count(8) + x.count(9), x.count(7));
        }
    }

    private static void changesNothing() {
        promise.says("what is refused changes nothing");
        promise.refuses("count(-1)", Circles::busy, x -> x.count(-1), BAD);
        promise.refuses("count(10)", Circles::busy, x -> x.count(10), BAD);
        for (int what = 0; what < 10; what++) {
            int of = what;
            promise.same("count(" + what + ")", Circles::busy, x -> x.count(of), x -> 0);
        }
    }
}
