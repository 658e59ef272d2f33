/** Promise 21: broken. */
public final class Promise21BrokenTest {
    private static final int BAD = SitterCircle.BAD, NONE = SitterCircle.NONE;

    private static final Promise promise = new Promise(21, "broken");

    public static void main(String[] args) {
        noSuchAsk();
        howManyWerePaid();
        withoutAnOffer();
        whetherItMayOrNot();
        firstTheOldest();
        newOnesOfTheDay();
        givenUpForWhatIsOwed();
        itIsNoMore();
        theOffersStay();
        isNoSitting();
        refusedLeavesAll();
        promise.finish();
    }

    private static void due(String call, long got, long want) {
        promise.due(call, got, want);
    }

    /** Family 0 asks, family 1 offers, and they fit. */
    private static SitterCircle pair(String text) {
        SitterCircle x = Check.circle(text, 3);
        x.ask(0, 0, 1);
        x.offer(1, 0, 1);
        return x;
    }

    private static void noSuchAsk() {
        promise.says("An ASK is broken. BAD");
        for (int asks : new int[] {0, 1, 9, 10}) {
            for (int ask : new int[] {Integer.MIN_VALUE, -1, 0, asks - 1, asks, asks + 1, 10, Integer.MAX_VALUE}) {
                SitterCircle x = Check.circle("issue 9; late 2;", 2);
                for (int i = 0; i < asks; i++) {
                    x.ask(0, 0, 1);
                }
                for (int i = 0; i < 10; i++) {
                    x.offer(1, 0, 1);
                }
                boolean isThere = ask >= 0 && ask < asks;
                due("broken(" + ask + ") of " + asks, x.broken(ask), isThere ? 2 : BAD);
                due("asks then", x.count(3), isThere ? asks - 1 : asks);
                due("notes of 0 then", x.told(0, 0), isThere ? 7 : 9);
            }
        }
    }

    private static void howManyWerePaid() {
        promise.says("its FAMILY PAYS that one's late: how many were PAID");
        for (int late : new int[] {0, 1, 4, 5, 6, 49, 50}) {
            SitterCircle x = pair("issue 5; late " + late + ";");
            due("broken(0) of late " + late, x.broken(0), late);
            due("0 has", x.told(0, 0), Math.max(0, 5 - late));
            due("0 owes", x.told(0, 1), Math.max(0, late - 5));
            due("1 has", x.told(1, 0), 5 + late);
            due("2 has", x.told(2, 0), 5);
            due("notes that came", x.count(7), 15 + Math.max(0, late - 5));
        }
        due("late is not told", pair("issue 5;").broken(0), 0);
        SitterCircle y = pair("issue 5; late 2;");
        Check.write(y, "late 3;").vote(1);
        due("another late from tomorrow on", y.broken(0), 2);
        SitterCircle z = pair("issue 5; late 2;");
        Check.write(z, "late 3;").vote(0);
        due("another late from today on", z.broken(0), 3);
    }

    private static void withoutAnOffer() {
        promise.says("if it has an OFFER in THE MATCH");
        SitterCircle x = Check.circle("issue 5; late 2;", 3);
        x.ask(0, 0, 1);
        x.ask(2, 0, 1);
        x.ask(0, 3, 4);
        x.offer(1, 0, 1);
        due("it fits none", x.broken(2), 0);
        due("its one is another's", x.broken(1), 0);
        due("0 has all", x.told(0, 0), 5);
        due("2 has all", x.told(2, 0), 5);
        due("asks", x.count(3), 1);
        due("it has one", x.broken(0), 2);
        due("asks then", x.count(3), 0);
        // with the first one gone the offer goes to the next
        SitterCircle y = Check.circle("issue 5; late 2;", 3);
        y.ask(0, 0, 1);
        y.ask(2, 0, 1);
        y.offer(1, 0, 1);
        due("0 breaks", y.broken(0), 2);
        due("2 has it now", y.sitter(0), 0);
        due("2 breaks", y.broken(0), 2);
        due("1 was paid twice", y.told(1, 0), 9);
    }

    private static void whetherItMayOrNot() {
        promise.says("(whether it may or not)");
        for (int late = 5; late <= 8; late++) {
            SitterCircle x = pair("issue 5; debt 2; late " + late + ";");
            due("broken(0) of late " + late, x.broken(0), late);
            due("0 owes", x.told(0, 1), late - 5);
            x.ask(0, 0, 1);
            // it may pay no more, so it has no offer then
            due("it may pay again", x.met(), late - 5 + 1 <= 2 ? 1 : 0);
        }
        SitterCircle y = pair("debt 1; late 50;");
        due("broken(0)", y.broken(0), 50);
        due("it owes", y.told(0, 1), 50);
        y.ask(0, 0, 1);
        due("no offer, no late", y.broken(0), 0);
        due("it owes the same", y.told(0, 1), 50);
    }

    private static void firstTheOldest() {
        promise.says("first its oldest NOTES go to y (with their DAYS)");
        for (int late = 1; late <= 5; late++) {
            SitterCircle x = Check.circle("issue 3; late " + late + ";", 1);
            x.go(2);
            x.join();
            x.join();
            Circles.sit(x, 1, 0, 2);
            // 0 has three of day 0 and two of day 2
            x.ask(0, 0, 1);
            x.offer(2, 0, 1);
            due("broken(0)", x.broken(0), late);
            due("0's oldest", x.told(0, 2), late < 3 ? 0 : late < 5 ? 2 : NONE);
            due("0's of that day", x.told(0, 5), late < 3 ? 3 - late : 5 - late);
            due("2's oldest", x.told(2, 2), 0);
            due("2's of that day", x.told(2, 5), Math.min(3, late));
            due("2 has", x.told(2, 0), 3 + late);
        }
    }

    private static void newOnesOfTheDay() {
        promise.says("for those that it lacks it OWES so many more, and y gets new ones of the DAY");
        for (int late = 2; late <= 4; late++) {
            SitterCircle x = Check.circle("issue 3; expire 5; late " + late + ";", 2);
            x.go(4);
            x.ask(0, 0, 1);
            x.offer(1, 0, 1);
            x.broken(0);
            x.evening();
            x.go(2);
            due("those of day 4 are left, late " + late, x.told(1, 0), late > 3 ? 1 : 0);
            due("1's oldest", x.told(1, 2), late > 3 ? 4 : NONE);
            due("expired", x.count(8), 6);
            due("came", x.count(7), late > 3 ? 7 : 6);
        }
    }

    private static void givenUpForWhatIsOwed() {
        promise.says("Whoever gets NOTES and OWES gives up as many of these at once as it OWES");
        for (int late = 1; late <= 5; late++) {
            SitterCircle x = Check.circle("issue 2; debt 9; late " + late + ";", 2);
            Circles.sit(x, 1, 0, 5);
            due("1 owes", x.told(1, 1), 3);
            x.ask(0, 0, 1);
            x.offer(1, 0, 1);
            due("broken(0)", x.broken(0), late);
            due("1 owes then, late " + late, x.told(1, 1), Math.max(0, 3 - late));
            due("1 has", x.told(1, 0), Math.max(0, late - 3));
            due("given up", x.count(9), Math.min(3, late));
            due("0 has", x.told(0, 0), 7 - late);
        }
    }

    private static void itIsNoMore() {
        promise.says("it is no more (later ones get the number one less)");
        for (int asks : new int[] {1, 2, 5, 10}) {
            for (int ask = 0; ask < asks; ask++) {
                SitterCircle x = Check.circle("", 1);
                for (int i = 0; i < asks; i++) {
                    x.ask(0, i, 2 * i + 1);
                }
                due("broken(" + ask + ") of " + asks, x.broken(ask), 0);
                for (int i = 0; i < asks - 1; i++) {
                    due("price(" + i + ")", x.price(i), i < ask ? i + 1 : i + 2);
                }
                due("price of the last", x.price(asks - 1), BAD);
                due("asks then", x.count(3), asks - 1);
                due("the next ask", x.ask(0, 0, 1), asks - 1);
            }
        }
        SitterCircle y = Check.circle("issue 9;", 4);
        y.ask(0, 0, 1);
        y.ask(1, 4, 6);
        y.ask(2, 8, 9);
        y.offer(3, 0, 9);
        y.bar(2, 3, true);
        y.broken(0);
        due("from, to and family move along: fits(0, 0)", y.fits(0, 0), 1);
        due("fits(1, 0)", y.fits(1, 0), 0);
        y.bar(2, 3, false);
        due("fits(1, 0) when it is not barred", y.fits(1, 0), 1);
        due("leave(0) when its ask is broken", y.leave(0), 9);
        due("leave(2)", y.leave(2), SitterCircle.STATE);
    }

    private static void theOffersStay() {
        promise.says("An ASK is broken: it is no more (the OFFERS are)");
        SitterCircle x = Check.circle("issue 9; late 1;", 3);
        x.ask(0, 0, 1);
        x.offer(1, 0, 1);
        x.offer(2, 0, 1);
        due("broken(0)", x.broken(0), 1);
        due("count(4)", x.count(4), 2);
        x.ask(0, 0, 1);
        due("its offer is free again", x.sitter(0), 0);
        due("leave(1)", x.leave(1), SitterCircle.STATE);
    }

    private static void isNoSitting() {
        promise.says("told: half hours that it sat, how often it was sat for");
        SitterCircle x = pair("issue 9; late 3;");
        x.broken(0);
        due("told(1, 3)", x.told(1, 3), 0);
        due("told(0, 4)", x.told(0, 4), 0);
        due("evening()", x.evening(), 0);
    }

    private static void refusedLeavesAll() {
        promise.says("what is refused changes nothing");
        for (int ask : new int[] {Integer.MIN_VALUE, -1, 3, 10, Integer.MAX_VALUE}) {
            promise.refuses("broken(" + ask + ")", Circles::busy, x -> x.broken(ask), BAD);
        }
        promise.refuses("broken(10)", Circles::full, x -> x.broken(10), BAD);
        promise.refuses("broken(0) without asks", () -> Check.circle("issue 3; late 2;", 2), x -> x.broken(0), BAD);
    }
}
