/** Promise 12: told. */
public final class Promise12ToldTest {
    private static final int BAD = SitterCircle.BAD, NONE = SitterCircle.NONE;

    private static final Promise promise = new Promise(12, "told");

    public static void main(String[] args) {
        noSuchFamily();
        whats();
        notes();
        owes();
        theOldestDay();
        theOldestOfManyDays();
        satAsPrices();
        howOftenSatFor();
        thoseThatExpireNext();
        allOfTheOldestDay();
        changesNothing();
        promise.finish();
    }

    private static void due(String call, long got, long want) {
        promise.due(call, got, want);
    }

    private static void noSuchFamily() {
        promise.says("Of a FAMILY. BAD");
        for (int came : new int[] {0, 1, 11, 12}) {
            SitterCircle x = Check.circle("issue 3;", came);
            for (int f : new int[] {Integer.MIN_VALUE, -1, 0, came - 1, came, came + 1, 12, Integer.MAX_VALUE}) {
                boolean isThere = f >= 0 && f < came;
                due("told(" + f + ", 0) of " + came, x.told(f, 0), isThere ? 3 : BAD);
                due("told(" + f + ", 4) of " + came, x.told(f, 4), isThere ? 0 : BAD);
            }
        }
        SitterCircle y = Check.circle("issue 3;", 3);
        y.leave(1);
        due("the one before it", y.told(0, 0), 3);
        due("one that left", y.told(1, 0), BAD);
        due("the one behind it", y.told(2, 0), 3);
    }

    private static void whats() {
        promise.says("0 NOTES .. 5 those that would expire next. BAD");
        SitterCircle x = Check.circle("issue 3;", 1);
        int[] told = {3, 0, 0, 0, 0, 3};
        for (int what = 0; what < 6; what++) {
            due("told(0, " + what + ")", x.told(0, what), told[what]);
        }
        for (int what : new int[] {Integer.MIN_VALUE, -1, 6, 7, Integer.MAX_VALUE}) {
            due("told(0, " + what + ")", x.told(0, what), BAD);
            due("told(1, " + what + ")", x.told(1, what), BAD);
        }
    }

    private static void notes() {
        promise.says("0 NOTES");
        SitterCircle x = Check.circle("issue 3; debt 1;", 2);
        Circles.sit(x, 0, 1, 2);
        due("one is left", x.told(0, 0), 1);
        due("the other one's", x.told(1, 0), 5);
        Circles.sit(x, 0, 1, 1);
        due("none is left", x.told(0, 0), 0);
        Circles.sit(x, 0, 1, 1);
        due("never below 0", x.told(0, 0), 0);
        due("a new one came", x.told(1, 0), 7);
    }

    private static void owes() {
        promise.says("1 how many it OWES");
        for (int price = 2; price <= 4; price++) {
            SitterCircle x = Check.circle("issue 3; debt 9;", 2);
            Circles.sit(x, 0, 1, price);
            due("told(0, 1) after " + price, x.told(0, 1), Math.max(0, price - 3));
            due("told(1, 1) after " + price, x.told(1, 1), 0);
        }
        // late may take it beyond what debt tells
        SitterCircle y = Check.circle("debt 100; late 50;", 2);
        Circles.sit(y, 0, 1, 48);
        Circles.sit(y, 0, 1, 48);
        due("48 and 48", y.told(0, 1), 96);
        y.ask(0, 0, 4);
        y.offer(1, 0, 4);
        due("broken(0)", y.broken(0), 50);
        due("beyond debt", y.told(0, 1), 146);
    }

    private static void theOldestDay() {
        promise.says("2 the DAY of its oldest NOTE (NONE)");
        SitterCircle x = Check.circle("issue 2; debt 9;", 1);
        due("of day 0", x.told(0, 2), 0);
        x.go(4);
        x.join();
        due("of day 4", x.told(1, 2), 4);
        due("day 0 still", x.told(0, 2), 0);
        Circles.sit(x, 0, 1, 1);
        due("one of day 0 came to 1", x.told(1, 2), 0);
        due("one is left", x.told(0, 2), 0);
        Circles.sit(x, 0, 1, 1);
        due("none is left", x.told(0, 2), NONE);
        Circles.sit(x, 1, 0, 2);
        due("all of day 0 went back", x.told(1, 2), 4);
        Circles.sit(x, 1, 0, 3);
        due("none, and it owes", x.told(1, 2), NONE);
        due("none issued", Check.circle("", 1).told(0, 2), NONE);
        SitterCircle last = Circles.onDay(Check.circle("issue 1;", 0), 2000);
        last.join();
        due("of day 2000", last.told(0, 2), 2000);
    }

    private static void theOldestOfManyDays() {
        promise.says("2 the DAY of its oldest NOTE: of as many DAYS as there are");
        // each day 0 lacks one, so that 1 gets a new one of each day
        SitterCircle x = Check.circle("debt 100;", 3);
        int days = 60;
        for (int day = 0; day < days; day++) {
            Circles.sit(x, 0, 1, 1);
            x.go(1);
        }
        due("notes of all days", x.told(1, 0), days);
        for (int day = 0; day < days; day++) {
            due("the oldest", x.told(1, 2), day);
            Circles.sit(x, 1, 2, 1);
        }
        due("none is left", x.told(1, 2), NONE);
        due("all went over", x.told(2, 0), days);
        due("the oldest of these", x.told(2, 2), 0);
    }

    private static void satAsPrices() {
        promise.says("3 half hours that it sat (as PRICES)");
        for (int from = 38; from <= 41; from++) {
            SitterCircle x = Check.circle("issue 9; double 40;", 2);
            x.ask(0, from, from + 1);
            x.offer(1, 0, 48);
            x.evening();
            due("told(1, 3) from " + from, x.told(1, 3), from < 40 ? 1 : 2);
            due("told(0, 3)", x.told(0, 3), 0);
        }
        SitterCircle y = Check.circle("issue 9; late 3;", 3);
        Circles.sit(y, 0, 1, 2);
        Circles.sit(y, 2, 1, 3);
        due("told(1, 3): the sum", y.told(1, 3), 5);
        y.ask(0, 0, 1);
        y.offer(1, 0, 1);
        y.broken(0);
        due("a break is no sitting", y.told(1, 3), 5);
        y.ask(1, 0, 20);
        y.offer(0, 0, 20);
        due("not held", y.evening(), 0);
        due("nor is what was not held", y.told(0, 3), 0);
    }

    private static void howOftenSatFor() {
        promise.says("4 how often it was sat for");
        SitterCircle x = Check.circle("issue 9; late 3;", 2);
        due("at first", x.told(0, 4), 0);
        Circles.sit(x, 0, 1, 1);
        due("once", x.told(0, 4), 1);
        x.ask(0, 0, 2);
        x.ask(0, 0, 3);
        x.offer(1, 0, 9);
        x.offer(1, 0, 9);
        due("both held", x.evening(), 2);
        due("three times", x.told(0, 4), 3);
        x.ask(0, 0, 1);
        x.offer(1, 0, 1);
        x.broken(0);
        due("a break is none", x.told(0, 4), 3);
        x.ask(0, 0, 1);
        due("no offer", x.evening(), 0);
        due("nor is an evening without a sitter", x.told(0, 4), 3);
        due("the sitter was not", x.told(1, 4), 0);
    }

    private static void thoseThatExpireNext() {
        promise.says("5 those of its NOTES that would expire next (of the oldest DAY)");
        SitterCircle x = Check.circle("issue 3; expire 4;", 1);
        x.go(1);
        x.join();
        x.go(1);
        x.join();
        Circles.sit(x, 1, 0, 2);
        Circles.sit(x, 2, 0, 1);
        due("all of them", x.told(0, 0), 6);
        due("of day 0", x.told(0, 5), 3);
        x.go(3);
        due("of day 1 then", x.told(0, 5), 2);
        due("three expired", x.count(8), 3);
        x.go(1);
        due("of day 2 then", x.told(0, 5), 1);
        x.go(1);
        due("none then", x.told(0, 5), 0);
        due("none issued", Check.circle("", 1).told(0, 5), 0);
        due("nothing expires", Check.circle("issue 7;", 1).told(0, 5), 7);
    }

    private static void allOfTheOldestDay() {
        promise.says("(of the oldest DAY): all of these, whenever they came");
        SitterCircle x = Check.circle("issue 3;", 2);
        Circles.sit(x, 1, 0, 2);
        due("its own and two that came", x.told(0, 5), 5);
        x.go(1);
        x.join();
        x.join();
        Circles.sit(x, 2, 0, 2);
        Circles.sit(x, 3, 0, 1);
        due("later ones are not of it", x.told(0, 5), 5);
        Circles.sit(x, 1, 0, 1);
        due("one of day 0 came last", x.told(0, 5), 6);
        Circles.sit(x, 0, 1, 4);
        due("two are left", x.told(0, 5), 2);
        Circles.sit(x, 0, 1, 2);
        due("those of day 1", x.told(0, 5), 3);
        Circles.sit(x, 3, 0, 2);
        due("and two more", x.told(0, 5), 5);
        due("all that it has", x.told(0, 0), 5);
    }

    private static void changesNothing() {
        promise.says("what is refused changes nothing");
        promise.refuses("told(3, 0), which left", Circles::busy, x -> x.told(3, 0), BAD);
        promise.refuses("told(5, 0)", Circles::busy, x -> x.told(5, 0), BAD);
        promise.refuses("told(1, 6)", Circles::busy, x -> x.told(1, 6), BAD);
        promise.same("told(1, 5)", Circles::busy, x -> x.told(1, 5), x -> 0);
    }
}
