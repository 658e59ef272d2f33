/**
 * Rule 7 of LANGUAGE.md: no call throws, for any numbers in any state. What is answered behind the
 * 512th call is free, so here nothing but its coming is looked at.
 */
public final class NeverThrowsTest {
    private static final int OBJECTS = 60;
    private static final int CALLS = 20_000;
    private static final int[] ODD = {
        Integer.MIN_VALUE, Integer.MIN_VALUE + 1, -101, -1, 9, 10, 11, 12, 31, 32, 33, 48, 57, 58, 60, 61, 200,
        2000, 2001, Integer.MAX_VALUE - 1, Integer.MAX_VALUE};
    private static final String[] TEXTS = {
        "issue 200;", "double 0;debt 100;", "late 50;", "expire 1;", "expire 400;issue 9;", "issue 5;late", "12345;", ""};

    private static final Check check = new Check("NeverThrowsTest");

    private final SitterCircle x = new SitterCircle();
    private final boolean isWild;
    private long seed;
    private String call = "";

    private NeverThrowsTest(int object) {
        seed = object * 104_729L + 5;
        isWild = object % 2 == 0;
    }

    public static void main(String[] args) {
        for (int object = 0; object < OBJECTS; object++) {
            NeverThrowsTest test = new NeverThrowsTest(object);
            try {
                for (int i = 0; i < CALLS; i++) {
                    test.call();
                }
                check.due("object " + object, 0, 0);
            } catch (RuntimeException | StackOverflowError e) {
                System.out.println(e);
                check.due("object " + object + ": " + test.call + " threw (1)", 1, 0);
            }
        }
        check.finish();
    }

    private long next() {
        seed = seed * 6364136223846793005L + 1442695040888963407L;
        return seed >>> 33;
    }

    private int any(int n) {
        return (int) (next() % n);
    }

    /** A number from 0 up to below n, of a wild object now and then any other one. */
    private int about(int n) {
        if (!isWild || any(4) != 0) {
            return any(n);
        }
        switch (any(3)) {
            case 0: return ODD[any(ODD.length)];
            case 1: return n + any(3) - 1;
            default: return (int) (next() << 1 ^ next());
        }
    }

    /** From a length that is no multiple of eight, too. */
    private void feedSome(int times) {
        x.end(any(9));
        for (int i = 0; i < times; i++) {
            x.feed(next() << 33 ^ next());
        }
    }

    private void call() {
        int a = about(12);
        int from = about(48);
        int to = about(49);
        int which = any(30);
        call = which + " with " + a + ", " + from + ", " + to;
        switch (which) {
            case 0: feedSome(any(30)); break;
            case 1: Check.write(x, TEXTS[any(TEXTS.length)]); break;
            case 2: x.vote(x.count(2) + about(3)); break;
            case 3: x.end(about(200)); break;
            case 4: x.unwind(); break;
            case 5: x.rule(about(2001), about(6)); break;
            case 6: case 7: x.go(1 + about(2)); break;
            case 8: x.join(); break;
            case 9: if (any(500) == 0) x.leave(a); break;
            case 10: x.bar(a, about(12), any(3) == 0); break;
            case 11: x.told(a, about(6)); break;
            case 12: case 13: case 14: x.ask(a, from, to); break;
            case 15: case 16: x.offer(a, from, to); break;
            case 17: x.price(a); break;
            case 18: x.fits(a, about(10)); break;
            case 19: x.sitter(a); break;
            case 20: x.why(about(2)); break;
            case 21: x.would(about(1001)); break;
            case 22: x.broken(a); break;
            case 23: case 24: x.evening(); break;
            case 25: x.sheet(about(4), about(2), about(61)); break;
            case 26: x.lay(about(4), about(60), any(2) == 0 ? from : about(12)); break;
            case 27: x.offers(about(4), about(2), about(60), about(4)); break;
            case 28: x.count(about(10)); break;
            default: x.met(); x.fault();
        }
    }
}
