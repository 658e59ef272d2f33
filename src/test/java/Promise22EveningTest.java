/** Promise 22: evening, and how a price is paid. */
public final class Promise22EveningTest {
    private static final int NONE = SitterCircle.NONE;

    private static final Promise promise = new Promise(22, "evening");

    public static void main(String[] args) {
        howManyWereHeld();
        paysItsPrice();
        ifItMayPayThen();
        byAsksInOrder();
        whatCameInPaysToo();
        theMatchIsHeldAsItWas();
        allAreNoMore();
        firstTheOldest();
        newOnesOfTheDay();
        asManyAsItOwes();
        theNewestFirst();
        promise.finish();
    }

    private static void due(String call, long got, long want) {
        promise.due(call, got, want);
    }

    private static void howManyWereHeld() {
        promise.says("how many were held");
        SitterCircle x = Check.circle("issue 20;", 2);
        due("nothing", x.evening(), 0);
        x.ask(0, 0, 1);
        due("an ask alone", x.evening(), 0);
        x.offer(1, 0, 1);
        due("an offer alone", x.evening(), 0);
        for (int n : new int[] {1, 9, 10}) {
            for (int i = 0; i < n; i++) {
                x.ask(i % 2, 0, 1);
                x.offer(1 - i % 2, 0, 1);
            }
            due(n + " pairs", x.evening(), n);
        }
    }

    private static void paysItsPrice() {
        promise.says("each one's FAMILY PAYS its PRICE to the OFFER's");
        for (int price = 1; price <= 4; price++) {
            SitterCircle x = Check.circle("issue 3; debt 1;", 3);
            due("price " + price, Circles.sit(x, 0, 1, price), 1);
            due("0 has", x.told(0, 0), Math.max(0, 3 - price));
            due("0 owes", x.told(0, 1), Math.max(0, price - 3));
            due("1 has", x.told(1, 0), 3 + price);
            due("2 has", x.told(2, 0), 3);
            due("came", x.count(7), 9 + Math.max(0, price - 3));
        }
        SitterCircle y = Check.circle("issue 100; double 47;", 2);
        y.ask(0, 46, 48);
        y.offer(1, 0, 48);
        y.evening();
        due("the last half hour twice", y.told(1, 0), 103);
        SitterCircle z = Check.circle("issue 100; double 0;", 2);
        due("all day", Circles.sit(z, 0, 1, 48), 1);
        due("96", z.told(1, 0), 196);
    }

    /** Two asks of one family that has four notes. */
    private static int heldOfTwo(int debt, int first, int second) {
        SitterCircle x = Check.circle("issue 4; debt " + debt + ";", 2);
        x.ask(0, 0, first);
        x.ask(0, 0, second);
        x.offer(1, 0, 48);
        x.offer(1, 0, 48);
        due("both fit", x.met(), 2);
        return x.evening();
    }

    private static void ifItMayPayThen() {
        promise.says("if it may PAY then (else that one is not held)");
        due("less than it has", heldOfTwo(0, 2, 1), 2);
        due("all that it has", heldOfTwo(0, 2, 2), 2);
        due("one more", heldOfTwo(0, 2, 3), 1);
        due("debt but one", heldOfTwo(3, 4, 2), 2);
        due("just debt", heldOfTwo(3, 4, 3), 2);
        due("debt and one", heldOfTwo(3, 4, 4), 1);
        due("owes after the first", heldOfTwo(3, 5, 2), 2);
        due("owes too much after the first", heldOfTwo(3, 5, 3), 1);
        SitterCircle x = Check.circle("issue 4;", 2);
        x.ask(0, 0, 4);
        x.ask(0, 0, 1);
        x.offer(1, 0, 48);
        x.offer(1, 0, 48);
        due("evening()", x.evening(), 1);
        due("what is not held is not paid", x.told(1, 0), 8);
        due("nor sat", x.told(1, 3), 4);
        due("nor sat for", x.told(0, 4), 1);
        due("nor owed", x.told(0, 1), 0);
    }

    private static void byAsksInOrder() {
        promise.says("by ASKS in order");
        int[][] prices = {{3, 2, 1}, {1, 2, 3}, {2, 3, 1}, {4, 1, 1}, {1, 4, 3}};
        int[] held = {2, 2, 2, 1, 2};
        int[] sum = {4, 3, 3, 4, 4};
        for (int i = 0; i < prices.length; i++) {
            SitterCircle x = Check.circle("issue 4;", 2);
            for (int price : prices[i]) {
                x.ask(0, 0, price);
                x.offer(1, 0, 48);
            }
            due("held of row " + i, x.evening(), held[i]);
            due("paid of row " + i, x.told(1, 3), sum[i]);
        }
    }

    private static void whatCameInPaysToo() {
        promise.says("if it may PAY then");
        // 1 sits for 0 first, and is sat for with what that brought
        for (int first = 1; first <= 3; first++) {
            SitterCircle x = Check.circle("issue 3; debt 0;", 3);
            Circles.sit(x, 1, 2, 3);
            x.ask(0, 0, first);
            x.offer(1, 0, 48);
            due("0 is sat for", x.met(), 1);
            due("evening()", x.evening(), 1);
            x.ask(1, 0, 2);
            x.offer(2, 0, 48);
            due("1 may pay 2 of " + first, x.evening(), first >= 2 ? 1 : 0);
        }
        // in one evening it has to fit before, with what it has then
        SitterCircle y = Check.circle("issue 2; debt 1;", 2);
        y.ask(1, 0, 3);
        y.ask(0, 0, 3);
        y.offer(0, 0, 3);
        y.offer(1, 0, 3);
        due("both are held", y.evening(), 2);
        due("0 owes none", y.told(0, 1), 0);
        due("1 owes none", y.told(1, 1), 0);
        due("0 has two", y.told(0, 0), 2);
        due("1 has two", y.told(1, 0), 2);
        due("one was given up", y.count(9), 1);
    }

    private static void theMatchIsHeldAsItWas() {
        promise.says("THE MATCH is held");
        // ask 1 is not held, yet its offer does not go to ask 2
        SitterCircle x = Check.circle("issue 4;", 3);
        x.ask(0, 0, 4);
        x.ask(0, 0, 4);
        x.ask(1, 0, 4);
        x.offer(2, 0, 4);
        x.offer(2, 0, 4);
        due("sitter(2)", x.sitter(2), NONE);
        due("evening()", x.evening(), 1);
        due("1 was not sat for", x.told(1, 4), 0);
        due("1 has four", x.told(1, 0), 4);
        // one that could pay only with what comes in is not in the match
        SitterCircle y = Check.circle("issue 2;", 3);
        Circles.sit(y, 1, 2, 2);
        y.ask(0, 0, 2);
        y.ask(1, 0, 2);
        y.offer(1, 0, 2);
        y.offer(2, 0, 2);
        due("met()", y.met(), 1);
        due("evening()", y.evening(), 1);
        due("1 keeps what came in", y.told(1, 0), 2);
    }

    private static void allAreNoMore() {
        promise.says("all ASKS and OFFERS are no more");
        SitterCircle x = Circles.full();
        x.evening();
        due("count(3)", x.count(3), 0);
        due("count(4)", x.count(4), 0);
        due("price(0)", x.price(0), SitterCircle.BAD);
        due("evening() again", x.evening(), 0);
        due("ask", x.ask(0, 0, 1), 0);
        due("offer", x.offer(1, 0, 1), 0);
        SitterCircle y = Check.circle("", 2);
        y.ask(0, 0, 1);
        y.offer(1, 5, 6);
        due("none held", y.evening(), 0);
        due("count(3) when none was held", y.count(3), 0);
        due("count(4) when none was held", y.count(4), 0);
        due("go(1)", y.go(1), 1);
        due("leave(0)", y.leave(0), 0);
        promise.same("evening() of none", () -> Check.circle("issue 3; debt 2;", 3), SitterCircle::evening, z -> 0);
    }

    private static void firstTheOldest() {
        promise.says("first its oldest NOTES go to y (with their DAYS)");
        for (int price = 1; price <= 6; price++) {
            SitterCircle x = threeDays();
            Circles.sit(x, 0, 3, price);
            // 0 had two of each of the days 0, 1, 2
            due("0's oldest, price " + price, x.told(0, 2), price < 6 ? price / 2 : NONE);
            due("0's of that day", x.told(0, 5), price == 6 ? 0 : 2 - price % 2);
            due("0 has", x.told(0, 0), 6 - price);
            Check.write(x, "expire 2;").vote(2);
            x.go(1);
            due("of day 0 expired", x.count(8), 2);
            due("3 has then", x.told(3, 0), price - Math.min(2, price));
            x.go(1);
            due("of day 1 expired", x.count(8), 4);
            due("3 has then", x.told(3, 0), price - Math.min(4, price));
            x.go(1);
            due("of day 2 expired", x.count(8), 6);
        }
    }

    /** Day 2; family 0 has two notes of each day, the others none. */
    private static SitterCircle threeDays() {
        SitterCircle x = Check.circle("issue 2;", 1);
        x.go(1);
        x.join();
        x.go(1);
        x.join();
        // the later day's come first: where they go is told by their day, not by when they came
        Circles.sit(x, 2, 0, 2);
        Circles.sit(x, 1, 0, 2);
        Check.write(x, "debt 50;").vote(2);
        x.join();
        return x;
    }

    private static void newOnesOfTheDay() {
        promise.says("for those that it lacks it OWES so many more, and y gets new ones of the DAY");
        for (int price = 5; price <= 8; price++) {
            SitterCircle x = threeDays();
            x.go(3);
            Circles.sit(x, 0, 3, price);
            int lacking = Math.max(0, price - 6);
            due("0 owes, price " + price, x.told(0, 1), lacking);
            due("came", x.count(7), 6 + lacking);
            due("3 has", x.told(3, 0), price);
            Check.write(x, "expire 3;").vote(5);
            x.go(1);
            due("only those of day 5 are left", x.told(3, 0), lacking);
            due("3's oldest", x.told(3, 2), lacking > 0 ? 5 : NONE);
        }
        SitterCircle y = Check.circle("debt 9;", 2);
        Circles.sit(y, 0, 1, 4);
        Circles.sit(y, 0, 1, 5);
        due("more and more", y.told(0, 1), 9);
    }

    private static void asManyAsItOwes() {
        promise.says("gives up as many of these at once as it OWES (they are no more, it OWES less)");
        for (int price = 1; price <= 5; price++) {
            SitterCircle x = Check.circle("issue 2; debt 9;", 3);
            Circles.sit(x, 0, 1, 5);
            due("0 owes", x.told(0, 1), 3);
            Circles.sit(x, 1, 0, price);
            due("0 owes then, price " + price, x.told(0, 1), Math.max(0, 3 - price));
            due("0 has", x.told(0, 0), Math.max(0, price - 3));
            due("given up", x.count(9), Math.min(3, price));
            due("all have", x.count(5), 9 - Math.min(3, price));
            due("all owe", x.count(6), Math.max(0, 3 - price));
            due("0's oldest", x.told(0, 2), price > 3 ? 0 : NONE);
        }
        SitterCircle y = Check.circle("issue 2; debt 9;", 2);
        Circles.sit(y, 1, 0, 1);
        due("one that owes none gives up none", y.count(9), 0);
    }

    private static void theNewestFirst() {
        promise.says("gives up as many of these at once, the newest first");
        // 0 pays six, two of each day, to one that owes
        for (int owes = 1; owes <= 6; owes++) {
            SitterCircle x = threeDays();
            x.join();
            Circles.sit(x, 3, 4, owes);
            due("3 owes", x.told(3, 1), owes);
            Circles.sit(x, 0, 3, 6);
            due("3 owes none", x.told(3, 1), 0);
            due("3 has, owed " + owes, x.told(3, 0), 6 - owes);
            due("3's oldest", x.told(3, 2), owes < 6 ? 0 : NONE);
            due("3's of day 0", x.told(3, 5), Math.min(2, 6 - owes));
            x.leave(4);
            Check.write(x, "expire 2;").vote(2);
            x.go(1);
            due("of day 1, 2 are left", x.told(3, 0), Math.max(0, 4 - owes));
            due("the oldest of these", x.told(3, 2), owes < 4 ? 1 : NONE);
            due("of day 1", x.told(3, 5), Math.max(0, Math.min(2, 4 - owes)));
        }
        // new ones of the day are newer than those that were moved in the same pay
        SitterCircle y = Check.circle("issue 2; debt 20;", 3);
        Circles.sit(y, 0, 1, 5);
        y.go(3);
        Circles.sit(y, 2, 0, 6);
        due("0 owes none", y.told(0, 1), 0);
        due("0 has three", y.told(0, 0), 3);
        due("two of them of day 0", y.told(0, 5), 2);
    }
}
