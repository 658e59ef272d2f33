import java.nio.charset.StandardCharsets;

/** Many long runs of calls, each answer held against the model's; the same runs every time. */
public final class ModelTest {
    private static final int RUNS = 1500;
    private static final int CALLS = 470;
    private static final String[] WORDS = {
        "issue", "double", "expire", "late", "debt", "issue", "debt", "free", "late;", ";", "12345", "X", "7", "  "};
    private static final String[] NAMES = {"issue", "double", "expire", "late", "debt"};
    private static final int[] MOST = {200, 47, 400, 50, 100};
    private static final int[] ODD = {Integer.MIN_VALUE, -100, -1, 12, 13, 48, 49, 61, 101, 2001, Integer.MAX_VALUE};

    private static final Check check = new Check("ModelTest");

    private final SitterCircle x = new SitterCircle();
    private final CircleModel m = new CircleModel();
    private final int run;
    private final int wildness;
    private long seed;
    private int calls;

    private ModelTest(int run) {
        this.run = run;
        seed = run * 7919L + 17;
        wildness = 1 + run % 5 * 4;
    }

    public static void main(String[] args) {
        for (int run = 0; run < RUNS && check.isClean(); run++) {
            new ModelTest(run).play();
        }
        check.finish();
    }

    /** From 0 up to below n, from a row of numbers that is the same every time. */
    private int any(int n) {
        seed = seed * 6364136223846793005L + 1442695040888963407L;
        return (int) ((seed >>> 33) % n);
    }

    private boolean now(int inHundred) {
        return any(100) < inHundred;
    }

    /** Mostly from 0 up to below n, now and then a number that is odd. */
    private int about(int n) {
        return now(wildness / 2) ? now(50) ? ODD[any(ODD.length)] : any(4) - 2 + n : any(n);
    }

    private void due(String call, int got, int want) {
        calls++;
        check.due("run " + run + " call " + calls + " " + call, got, want);
    }

    private void play() {
        if (run % 3 == 0) {
            playCalmly();
        } else if (run % 3 == 1) {
            playBusyEvenings();
        }
        int mood = 0;
        while (calls < CALLS && check.isClean()) {
            if (any(12) == 0) {
                mood = any(5);
            }
            switch (mood) {
                case 0: text(); break;
                case 1: families(); break;
                case 2: sheets(); break;
                case 3: days(); break;
                default: evening(); break;
            }
            if (now(60)) {
                look();
            }
        }
    }

    private void voteFirst(String law) {
        byte[] bytes = law.getBytes(StandardCharsets.ISO_8859_1);
        for (int i = 0; i < bytes.length; i += 8) {
            long v = Check.eightBytes(bytes, i);
            due("feed " + v, x.feed(v), m.feed(v));
        }
        due("vote " + law, x.vote(0), m.vote(0));
    }

    /** Evenings on which most asks fit some offers, and bars come and go. */
    private void playBusyEvenings() {
        voteFirst("issue " + any(30) + ";double " + (25 + any(20)) + ";late 4;debt " + any(30) + ";");
        for (int i = 0; i < 12; i++) {
            due("join", x.join(), m.join());
        }
        int evenings = 2 + any(3);
        for (int i = 0; i < evenings && check.isClean(); i++) {
            fillEvening(3 + any(8), 3 + any(8), 1 + any(6));
            lookAtMatch();
            int f = any(12);
            int g = any(12);
            due("bar " + f + " " + g, x.bar(f, g, true), m.bar(f, g, true));
            int ask = any(10);
            due("broken " + ask, x.broken(ask), m.broken(ask));
            lookAtMatch();
            due("evening", x.evening(), m.evening());
            for (int what = 0; what < 6; what++) {
                due("told " + f + " " + what, x.told(f, what), m.told(f, what));
            }
            due("go 1", x.go(1), m.go(1));
        }
    }

    /** The narrower the offers, the fewer fit. */
    private void fillEvening(int asks, int offers, int width) {
        for (int i = 0; i < asks; i++) {
            int f = any(12);
            int from = 20 + any(10);
            int to = from + 1 + any(6);
            due("ask " + f + " " + from + " " + to, x.ask(f, from, to), m.ask(f, from, to));
        }
        for (int i = 0; i < offers; i++) {
            int f = any(12);
            int from = 26 - any(4 * width);
            int to = 27 + any(4 * width) % 21;
            due("offer " + f + " " + from + " " + to, x.offer(f, from, to), m.offer(f, from, to));
        }
    }

    private void lookAtMatch() {
        lookAtCover();
        for (int ask = 0; ask < m.count(3); ask++) {
            due("sitter " + ask, x.sitter(ask), m.sitter(ask));
            int offer = any(10);
            due("fits " + ask + " " + offer, x.fits(ask, offer), m.fits(ask, offer));
        }
        int n = any(60);
        due("would " + n, x.would(n), m.would(n));
    }

    /** Days with a sitting each, so that purses come to hold notes of many days. */
    private void playCalmly() {
        voteFirst("issue " + any(4) + ";late 3;debt " + any(100) + ";");
        int days = 20 + any(40);
        for (int i = 0; i < days && check.isClean(); i++) {
            if (any(4) == 0) {
                due("join", x.join(), m.join());
            }
            int f = any(6);
            int g = any(6);
            int to = 1 + any(9);
            due("ask " + f, x.ask(f, 0, to), m.ask(f, 0, to));
            due("offer " + g, x.offer(g, 0, to), m.offer(g, 0, to));
            if (any(4) == 0) {
                due("broken", x.broken(0), m.broken(0));
            }
            due("evening", x.evening(), m.evening());
            due("told " + g, x.told(g, 5), m.told(g, 5));
            due("oldest of " + f, x.told(f, 2), m.told(f, 2));
            int n = 1 + any(3);
            due("go " + n, x.go(n), m.go(n));
        }
    }

    private String words() {
        StringBuilder b = new StringBuilder();
        int laws = any(6);
        for (int i = 0; i < laws; i++) {
            int law = any(NAMES.length);
            int most = now(50) ? Math.min(9, MOST[law]) : MOST[law];
            b.append(now(15) ? "  " : "").append(NAMES[law]).append(now(90) ? " " : "");
            b.append(any(most + (now(wildness) ? 5 : 1))).append(now(8) ? " " : "").append(';');
        }
        if (now(wildness)) {
            b.insert(any(b.length() + 1), WORDS[any(WORDS.length)]);
        }
        return b.toString();
    }

    private void text() {
        byte[] bytes = words().getBytes(StandardCharsets.ISO_8859_1);
        for (int i = 0; i < bytes.length; i += 8) {
            long v = Check.eightBytes(bytes, i);
            v = now(wildness / 4) ? v ^ 1L << any(64) : v;
            due("feed " + v, x.feed(v), m.feed(v));
        }
        int n = now(wildness) ? about(200) : bytes.length;
        due("end " + n, x.end(n), m.end(n));
        int day = m.count(2) + (now(60) ? 0 : any(9)) - (now(wildness / 2) ? 1 : 0);
        day = now(wildness / 4) ? about(2001) : day;
        due("vote " + day, x.vote(day), m.vote(day));
        due("fault", x.fault(), m.fault());
        if (now(40)) {
            due("unwind", x.unwind(), m.unwind());
        }
    }

    private void families() {
        int f = about(12);
        int g = about(12);
        switch (any(6)) {
            case 0: case 1: case 2: due("join", x.join(), m.join()); break;
            case 3: if (now(20)) due("leave " + f, x.leave(f), m.leave(f)); break;
            default:
                boolean on = now(60);
                due("bar " + f + " " + g + " " + on, x.bar(f, g, on), m.bar(f, g, on));
        }
    }

    private void sheets() {
        int k = about(4);
        int lane = about(2);
        int n = about(31);
        switch (any(8)) {
            case 0: due("sheet", x.sheet(k, lane, n), m.sheet(k, lane, n)); break;
            case 1: case 2: case 3:
                offerOnSheet(k, 3 * any(5));
                break;
            case 4:
                int v = any(2000) - 500;
                due("lay", x.lay(k, n, v), m.lay(k, n, v));
                break;
            default:
                int c = now(70) ? 3 * any(4) : about(60);
                int some = about(now(70) ? 3 : 11);
                due("offers " + k + " " + lane + " " + c + " " + some,
                        x.offers(k, lane, c, some), m.offers(k, lane, c, some));
        }
    }

    private void offerOnSheet(int k, int c) {
        int from = any(20);
        int[] cells = {any(8), from, from + 1 + any(28)};
        for (int i = 0; i < 3; i++) {
            due("lay", x.lay(k, c + i, cells[i]), m.lay(k, c + i, cells[i]));
        }
    }

    private void days() {
        if (now(50)) {
            due("evening", x.evening(), m.evening());
        }
        int n = now(80) ? 1 + any(4) : about(101);
        due("go " + n, x.go(n), m.go(n));
    }

    private void evening() {
        int f = about(8);
        int from = now(95) ? any(20) : about(48);
        int to = now(95) ? from + 1 + any(9) : about(48);
        int wide = now(95) ? Math.min(48, to + any(15)) : about(49);
        int i = about(5);
        switch (any(12)) {
            case 0: case 1: case 2: case 3:
                due("ask " + f + " " + from + " " + to, x.ask(f, from, to), m.ask(f, from, to));
                break;
            case 4: case 5: case 6: case 7: case 8:
                due("offer " + f + " " + from + " " + wide, x.offer(f, from, wide), m.offer(f, from, wide));
                break;
            case 9: case 10: due("broken " + i, x.broken(i), m.broken(i)); break;
            default:
                if (now(50)) {
                    due("evening", x.evening(), m.evening());
                }
        }
    }

    private void look() {
        int i = about(10);
        int j = about(10);
        switch (any(10)) {
            case 0: due("price " + i, x.price(i), m.price(i)); break;
            case 1: due("fits " + i + " " + j, x.fits(i, j), m.fits(i, j)); break;
            case 2: due("sitter " + i, x.sitter(i), m.sitter(i)); break;
            case 3: lookAtCover(); break;
            case 4: int n = now(70) ? any(60) : about(1001); due("would " + n, x.would(n), m.would(n)); break;
            case 5: int day = about(2001); int law = about(6); due("rule", x.rule(day, law), m.rule(day, law)); break;
            case 6: case 7: case 8:
                int what = about(6);
                due("told " + i + " " + what, x.told(i, what), m.told(i, what));
                break;
            default: due("count " + i, x.count(i), m.count(i));
        }
    }

    /** As many as pairs, and each pair that fits has one of them: so no more can be. */
    private void lookAtCover() {
        due("met", x.met(), m.met());
        int asks = x.why(0);
        int offers = x.why(1);
        due("why(0)", asks, m.why(0));
        due("why(1)", offers, m.why(1));
        due("as many as pairs", Integer.bitCount(asks) + Integer.bitCount(offers), m.met());
        for (int a = 0; a < m.count(3); a++) {
            for (int o = 0; o < m.count(4); o++) {
                boolean isCovered = (asks >> a & 1) != 0 || (offers >> o & 1) != 0;
                check.due("covered " + a + " " + o, isCovered || m.fits(a, o) == 0 ? 1 : 0, 1);
            }
        }
        int what = about(2);
        due("why " + what, x.why(what), m.why(what));
    }
}
