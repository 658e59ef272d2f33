/** Promise 16: fits. */
public final class Promise16FitsTest {
    private static final int BAD = SitterCircle.BAD;

    private static final Promise promise = new Promise(16, "fits");

    public static void main(String[] args) {
        noSuchAskOrOffer();
        unlikeFamilies();
        neitherBars();
        allHalfHours();
        mayPay();
        mayPayWhenItOwes();
        eachAskForItself();
        changesNothing();
        promise.finish();
    }

    private static void due(String call, long got, long want) {
        promise.due(call, got, want);
    }

    private static void noSuchAskOrOffer() {
        promise.says("Whether an ASK and an OFFER FIT (1, 0). BAD");
        for (int asks : new int[] {0, 1, 10}) {
            for (int offers : new int[] {0, 1, 10}) {
                SitterCircle x = Check.circle("issue 9;", 2);
                for (int i = 0; i < 10; i++) {
                    if (i < asks) {
                        x.ask(0, 0, 1);
                    }
                    if (i < offers) {
                        x.offer(1, 0, 1);
                    }
                }
                int[] as = {Integer.MIN_VALUE, -1, 0, asks - 1, asks, 10, Integer.MAX_VALUE};
                int[] os = {Integer.MIN_VALUE, -1, 0, offers - 1, offers, 10, Integer.MAX_VALUE};
                for (int a : as) {
                    for (int o : os) {
                        boolean areThere = a >= 0 && a < asks && o >= 0 && o < offers;
                        due("fits(" + a + ", " + o + ") of " + asks + ", " + offers, x.fits(a, o), areThere ? 1 : BAD);
                    }
                }
            }
        }
    }

    private static void unlikeFamilies() {
        promise.says("if they are of unlike FAMILIES");
        SitterCircle x = Check.circle("issue 9;", 12);
        x.ask(0, 0, 1);
        x.ask(11, 0, 1);
        x.offer(0, 0, 1);
        x.offer(11, 0, 1);
        x.offer(1, 0, 1);
        int[][] want = {{0, 1, 1}, {1, 0, 1}};
        for (int a = 0; a < 2; a++) {
            for (int o = 0; o < 3; o++) {
                due("fits(" + a + ", " + o + ")", x.fits(a, o), want[a][o]);
            }
        }
    }

    private static void neitherBars() {
        promise.says("neither BARS the other one");
        for (int g : new int[] {1, 11}) {
            SitterCircle x = Check.circle("issue 9;", 12);
            x.ask(0, 0, 1);
            x.offer(g, 0, 1);
            due("none bars", x.fits(0, 0), 1);
            x.bar(0, g, true);
            due("that of the ask bars", x.fits(0, 0), 0);
            x.bar(g, 0, true);
            due("both bar", x.fits(0, 0), 0);
            x.bar(0, g, false);
            due("that of the offer bars", x.fits(0, 0), 0);
            x.bar(g, 0, false);
            due("none bars again", x.fits(0, 0), 1);
            x.bar(0, 2, true);
            x.bar(2, 0, true);
            x.bar(g, 2, true);
            x.bar(2, g, true);
            due("others are barred", x.fits(0, 0), 1);
        }
    }

    private static void allHalfHours() {
        promise.says("the OFFER has all half hours of the ASK");
        int[][] asks = {{10, 20}, {10, 11}, {0, 1}, {47, 48}, {0, 48}, {1, 47}};
        for (int[] ask : asks) {
            for (int dFrom = -1; dFrom <= 1; dFrom++) {
                for (int dTo = -1; dTo <= 1; dTo++) {
                    SitterCircle x = Check.circle("issue 100;", 2);
                    x.ask(0, ask[0], ask[1]);
                    if (x.offer(1, ask[0] + dFrom, ask[1] + dTo) == 0) {
                        due(ask[0] + " to " + ask[1] + ", offer " + dFrom + ", " + dTo, x.fits(0, 0),
                                dFrom <= 0 && dTo >= 0 ? 1 : 0);
                    }
                }
            }
        }
        SitterCircle y = Check.circle("issue 9;", 2);
        y.ask(0, 10, 12);
        y.offer(1, 0, 10);
        y.offer(1, 12, 48);
        y.offer(1, 0, 11);
        y.offer(1, 11, 48);
        y.offer(1, 0, 48);
        int[] want = {0, 0, 0, 0, 1};
        for (int o = 0; o < want.length; o++) {
            due("offer " + o, y.fits(0, o), want[o]);
        }
    }

    private static int fitOf(String text, int halfHours) {
        SitterCircle x = Check.circle(text, 2);
        x.ask(0, 0, halfHours);
        x.offer(1, 0, 48);
        return x.fits(0, 0);
    }

    private static void mayPay() {
        promise.says("It may PAY, if it would OWE at most debt then");
        due("all that it has but one", fitOf("issue 4;", 3), 1);
        due("all that it has", fitOf("issue 4;", 4), 1);
        due("one more", fitOf("issue 4;", 5), 0);
        due("nothing, no debt", fitOf("", 1), 0);
        due("nothing, debt 1", fitOf("debt 1;", 1), 1);
        due("nothing, debt 1, two", fitOf("debt 1;", 2), 0);
        due("up to debt but one", fitOf("issue 4; debt 3;", 6), 1);
        due("up to debt", fitOf("issue 4; debt 3;", 7), 1);
        due("one beyond debt", fitOf("issue 4; debt 3;", 8), 0);
        due("96 of debt 95", fitOf("double 0; debt 95;", 48), 0);
        due("96 of debt 96", fitOf("double 0; debt 96;", 48), 1);
        due("its price counts, not its half hours", fitOf("issue 4; double 2;", 3), 1);
        due("a price of five", fitOf("issue 4; double 1;", 3), 0);
    }

    private static void mayPayWhenItOwes() {
        promise.says("It may PAY, if it would OWE at most debt then: with what it OWES");
        for (int price = 2; price <= 4; price++) {
            SitterCircle x = Check.circle("issue 1; debt 5;", 2);
            Circles.sit(x, 0, 1, 3);
            x.ask(0, 0, price);
            x.offer(1, 0, 48);
            due("owes 2, debt 5, price " + price, x.fits(0, 0), price <= 3 ? 1 : 0);
        }
        // another text may put its debt below what it owes
        SitterCircle y = Check.circle("debt 5;", 2);
        Circles.sit(y, 0, 1, 5);
        y.ask(0, 0, 1);
        y.offer(1, 0, 48);
        due("owes 5 of debt 5", y.fits(0, 0), 0);
        Check.write(y, "debt 6;").vote(0);
        due("owes 5 of debt 6", y.fits(0, 0), 1);
        Check.write(y, "debt 4;").vote(0);
        due("owes 5 of debt 4", y.fits(0, 0), 0);
        // the one that offers may owe what it will
        SitterCircle z = Check.circle("issue 1; debt 5;", 2);
        Circles.sit(z, 0, 1, 6);
        z.ask(1, 0, 1);
        z.offer(0, 0, 1);
        due("the one that offers owes", z.fits(0, 0), 1);
    }

    private static void eachAskForItself() {
        promise.says("(each ASK for itself)");
        SitterCircle x = Check.circle("issue 4;", 2);
        for (int i = 0; i < 3; i++) {
            x.ask(0, 0, 4);
            x.offer(1, 0, 4);
        }
        x.ask(0, 0, 5);
        for (int a = 0; a < 4; a++) {
            for (int o = 0; o < 3; o++) {
                due("fits(" + a + ", " + o + ")", x.fits(a, o), a < 3 ? 1 : 0);
            }
        }
    }

    private static void changesNothing() {
        promise.says("what is refused changes nothing");
        int[][] wrong = {{-1, 0}, {3, 0}, {0, -1}, {0, 3}, {3, 3}, {10, 10}};
        for (int[] w : wrong) {
            promise.refuses("fits(" + w[0] + ", " + w[1] + ")", Circles::busy, x -> x.fits(w[0], w[1]), BAD);
        }
        promise.same("fits(0, 0)", Circles::busy, x -> x.fits(0, 0), x -> 0);
    }
}
