import java.nio.charset.StandardCharsets;

/** Counts the answers that are not due; each test makes one of its own. */
final class Check {
    private final String test;
    private int wrong;
    private int asked;

    Check(String test) {
        this.test = test;
    }

    void due(String call, long got, long want) {
        asked++;
        if (got != want) {
            wrong++;
            if (wrong <= 50) {
                System.out.println(test + ": " + call + " answered " + got + ", due is " + want);
            }
        }
    }

    boolean isClean() {
        return wrong == 0;
    }

    void finish() {
        System.out.println(test + ": " + asked + " answers, " + wrong + " not as due");
        if (wrong != 0) {
            System.exit(1);
        }
    }

    /** Eight bytes of a text, blanks behind its end. */
    static long eightBytes(byte[] text, int from) {
        long v = 0;
        for (int i = 0; i < 8; i++) {
            int b = from + i < text.length ? text[from + i] & 255 : ' ';
            v = v << 8 | b;
        }
        return v;
    }

    /** Writes a text on an empty tape; returns the object for chaining. */
    static SitterCircle write(SitterCircle x, String text) {
        byte[] bytes = text.getBytes(StandardCharsets.ISO_8859_1);
        for (int i = 0; i < bytes.length; i += 8) {
            x.feed(eightBytes(bytes, i));
        }
        x.end(bytes.length);
        return x;
    }

    /** A new object with a text that counts from day 0 on and some families. */
    static SitterCircle circle(String text, int families) {
        SitterCircle x = new SitterCircle();
        if (!text.isEmpty()) {
            write(x, text).vote(0);
        }
        for (int i = 0; i < families; i++) {
            x.join();
        }
        return x;
    }
}
