import java.util.function.Supplier;

/** Promise 4: vote, and the texts that are voted. */
public final class Promise04VoteTest {
    private static final int BAD = SitterCircle.BAD, FULL = SitterCircle.FULL, NONE = SitterCircle.NONE;
    private static final String[] NAMES = {"issue", "double", "expire", "late", "debt"};
    private static final int[] LEAST = {0, 0, 1, 0, 0};
    private static final int[] MOST = {200, 47, 400, 50, 100};

    private static final Promise promise = new Promise(4, "vote");

    public static void main(String[] args) {
        fromNowToTheLastDay();
        itsNumber();
        sixTexts();
        badLeavesTheTape();
        fullLeavesTheTape();
        theFirstThatFits();
        theTapeIsEmptyThen();
        faultLeavesTheRest();
        thePlaceOfTheFault();
        oneLawAtLeast();
        boundsOfEachLaw();
        eachLawOnce();
        names();
        numbers();
        semicolons();
        blanks();
        bytesThatAreNoToken();
        tokensThatCanNotStand();
        theEndIsTheLength();
        theFirstFaultMet();
        notesExpireAtTheVote();
        promise.finish();
    }

    private static void due(String call, long got, long want) {
        promise.due(call, got, want);
    }

    private static void takes(String text, int what, int value) {
        SitterCircle x = Check.write(new SitterCircle(), text);
        due("vote '" + text + "'", x.vote(0), 0);
        due("fault of '" + text + "'", x.fault(), 0);
        due("rule(0, " + what + ") of '" + text + "'", x.rule(0, what), value);
    }

    private static void faulty(String text, int which, int place) {
        SitterCircle x = Check.write(new SitterCircle(), text);
        due("vote '" + text + "'", x.vote(0), -10 - place);
        due("fault of '" + text + "'", x.fault(), which);
        due("count(1) after '" + text + "'", x.count(1), 0);
    }

    private static void fromNowToTheLastDay() {
        promise.says("is voted from a DAY on (now to 2000)");
        for (int now : new int[] {0, 1, 5, 1999, 2000}) {
            int[] days = {Integer.MIN_VALUE, -1, 0, now - 1, now, now + 1, 1999, 2000, 2001, Integer.MAX_VALUE};
            for (int day : days) {
                SitterCircle x = Check.write(Circles.onDay(new SitterCircle(), now), "late 3;");
                boolean isFine = day >= now && day <= 2000;
                due("vote(" + day + ") on day " + now, x.vote(day), isFine ? 0 : BAD);
                due("texts then", x.count(1), isFine ? 1 : 0);
                due("bytes on the tape then", x.end(0), isFine ? 0 : 7);
                if (isFine && day > 0) {
                    due("the day before", x.rule(day - 1, 3), 0);
                }
                if (isFine) {
                    due("on that day", x.rule(day, 3), 3);
                }
            }
        }
    }

    private static void itsNumber() {
        promise.says("its number");
        SitterCircle x = new SitterCircle();
        for (int i = 0; i < 6; i++) {
            Check.write(x, "late " + i + ";");
            due("vote " + i, x.vote(9 - i), i);
            due("count(1)", x.count(1), i + 1);
            Check.write(x, "late");
            due("a faulty one takes no number", x.vote(0), i == 5 ? FULL : -14);
            x.end(0);
        }
    }

    private static void sixTexts() {
        promise.says("TEXTS (6): FULL");
        for (int day : new int[] {0, 1, 2000}) {
            SitterCircle x = new SitterCircle();
            for (int i = 0; i < 5; i++) {
                Check.write(x, "debt " + i + ";").vote(day);
            }
            Check.write(x, "debt 50;");
            due("the sixth", x.vote(day), 5);
            Check.write(x, "debt 60;");
            due("the seventh", x.vote(day), FULL);
            due("the seventh again", x.vote(2000), FULL);
            due("the sixth counts", x.rule(day, 4), 50);
            due("count(1)", x.count(1), 6);
        }
    }

    private static void badLeavesTheTape() {
        promise.says("BAD (THE TAPE stays)");
        for (int day : new int[] {Integer.MIN_VALUE, -1, 0, 2, 2001, Integer.MAX_VALUE}) {
            promise.refuses("vote(" + day + ") on day 3", Circles::busy, x -> x.vote(day), BAD);
        }
        SitterCircle x = Check.write(new SitterCircle(), "late 3;");
        due("vote(2001)", x.vote(2001), BAD);
        due("end(7)", x.end(7), 7);
        due("vote(2000)", x.vote(2000), 0);
        due("rule(2000, 3)", x.rule(2000, 3), 3);
    }

    private static void fullLeavesTheTape() {
        promise.says("FULL (likewise)");
        promise.refuses("vote(5)", Circles::full, x -> x.vote(5), FULL);
        promise.refuses("vote(2000)", Circles::full, x -> x.vote(2000), FULL);
        SitterCircle x = Circles.full();
        due("vote(5)", x.vote(5), FULL);
        due("end(200)", x.end(200), 200);
        due("unwind()", x.unwind(), 5);
        due("vote(5) with room", x.vote(5), 5);
        due("rule(5, 3)", x.rule(5, 3), 7);
    }

    private static void theFirstThatFits() {
        promise.says("BAD, FULL, then the FAULT: the first that fits");
        SitterCircle x = Circles.full();
        due("vote(4) on day 5 when full", x.vote(4), BAD);
        due("vote(2001) when full", x.vote(2001), BAD);
        x.end(0);
        Check.write(x, "foo");
        due("a faulty text when full", x.vote(5), FULL);
        due("fault()", x.fault(), 0);
        due("a faulty text on a day behind when full", x.vote(4), BAD);
        due("end(3)", x.end(3), 3);
        SitterCircle y = Check.write(new SitterCircle(), "foo");
        due("a faulty text on a bad day", y.vote(-1), BAD);
        due("fault()", y.fault(), 0);
    }

    private static void theTapeIsEmptyThen() {
        promise.says("THE TAPE (empty then)");
        for (String text : new String[] {"late 3;", "", " ", "late 3; ", "late 3", "late 51;", "late 3;late 3;", "?"}) {
            SitterCircle x = Check.write(new SitterCircle(), text);
            x.vote(0);
            due("end(1) after '" + text + "'", x.end(1), BAD);
            due("end(0) after '" + text + "'", x.end(0), 0);
            due("feed after '" + text + "'", x.feed(0), 8);
        }
        SitterCircle full = Circles.filled(new SitterCircle(), "late 3;", 200);
        due("vote of 200", full.vote(0), 0);
        due("feed then", full.feed(0), 8);
    }

    private static void faultLeavesTheRest() {
        promise.says("what is refused changes nothing (but THE TAPE, as told)");
        String[] texts = {"foo", "issue 50; expire 1; foo", "issue 50; expire 1; ?", "debt 1; late 00001;"};
        for (String text : texts) {
            Supplier<SitterCircle> recipe = () -> {
                SitterCircle x = Circles.busy();
                x.end(0);
                return Check.write(x, text);
            };
            // the latest vote of a busy circle had this fault already
            promise.same("vote(3) of '" + text + "'", recipe, x -> x.vote(3), x -> x.end(0));
            promise.same("vote(2000) of '" + text + "'", recipe, x -> x.vote(2000), x -> x.end(0));
        }
        SitterCircle x = Check.circle("late 9; debt 8;", 1);
        Check.write(x, "issue 7; debt 101;").vote(0);
        due("rule(0, 5) after a faulty text", x.rule(0, 5), 0);
        due("rule(0, 0)", x.rule(0, 0), 0);
        due("rule(0, 3)", x.rule(0, 3), 9);
        Check.write(x, "debt 3;");
        due("the next vote", x.vote(0), 1);
        due("tells only its own", x.rule(0, 0), 0);
    }

    private static void thePlaceOfTheFault() {
        promise.says("-10 less the place of its FAULT");
        for (int place = 0; place < 200; place++) {
            SitterCircle x = Check.write(new SitterCircle(), " ".repeat(place) + "?");
            due("a fault at " + place, x.vote(0), -10 - place);
            due("fault()", x.fault(), 1);
        }
        faulty(" ".repeat(200), 2, 200);
        faulty(" ".repeat(199), 2, 199);
        String laws = "issue 1;double 1;expire 1;late 1;debt 1;";
        takes(laws + " ".repeat(160), 4, 1);
        faulty(laws + " ".repeat(159) + ";", 2, 199);
        faulty(laws + " ".repeat(155) + "debt;", 4, 195);
        faulty(laws.substring(0, 33) + " ".repeat(160) + "debt 10", 2, 200);
        takes(laws.substring(0, 33) + " ".repeat(160) + "debt 1;", 4, 1);
    }

    private static void oneLawAtLeast() {
        promise.says("text: law { law }");
        faulty("", 2, 0);
        faulty(" ", 2, 1);
        takes("late 3;", 3, 3);
        takes("late 3; debt 4;", 4, 4);
        takes("issue 1; double 2; expire 3; late 4; debt 5;", 0, 1);
        takes("issue 1; double 2; expire 3; late 4; debt 5;", 4, 5);
        takes("debt 5;late 4;expire 3;double 2;issue 1;", 2, 3);
        faulty("issue 1;double 1;expire 1;late 1;debt 1;late 1;", 4, 40);
        faulty("issue 1;double 1;expire 1;late 1;debt 1;5", 2, 40);
        faulty("issue 1;double 1;expire 1;late 1;debt 1;x", 1, 40);
    }

    private static void boundsOfEachLaw() {
        promise.says("N of issue 0 to 200, double 0 to 47, expire 1 to 400, late 0 to 50, debt 0 to 100");
        for (int law = 0; law < 5; law++) {
            int place = NAMES[law].length() + 1;
            for (int n : new int[] {LEAST[law], LEAST[law] + 1, MOST[law] - 1, MOST[law]}) {
                takes(NAMES[law] + " " + n + ";", law, n);
            }
            for (int n : new int[] {LEAST[law] - 1, MOST[law] + 1, 9999}) {
                if (n >= 0) {
                    faulty(NAMES[law] + " " + n + ";", 3, place);
                }
            }
        }
        faulty("late 1; expire 0;", 3, 15);
        faulty("late -1;", 1, 5);
    }

    private static void eachLawOnce() {
        promise.says("each law once at most: 4 a law that is told already (its NAME)");
        for (String name : NAMES) {
            String law = name + " 1;";
            takes(law, 5, 0);
            faulty(law + law, 4, law.length());
            faulty(law + "  " + law, 4, law.length() + 2);
            faulty(law + name, 4, law.length());
            for (String other : NAMES) {
                if (!other.equals(name)) {
                    String between = other + " 2;";
                    takes(law + between, 5, 0);
                    faulty(law + between + law, 4, law.length() + between.length());
                }
            }
        }
        faulty("issue 0;issue 0;", 4, 8);
        SitterCircle x = Check.circle("late 1;", 0);
        Check.write(x, "late 2;");
        due("told by another text", x.vote(0), 1);
    }

    private static void names() {
        promise.says("NAMES (a .. z), each as long as may be; 1 a NAME that is none of these (its first byte)");
        for (String name : NAMES) {
            faulty(name.substring(0, name.length() - 1) + " 1;", 1, 0);
            faulty(name.substring(1) + " 1;", 1, 0);
            faulty(name + "a 1;", 1, 0);
            faulty(name + "z 1;", 1, 0);
            faulty(name + name + " 1;", 1, 0);
            faulty(" " + name.toUpperCase() + " 1;", 1, 1);
            faulty(name + "` 1;", 1, name.length());
            faulty(name + "{ 1;", 1, name.length());
            faulty("a" + name + " 1;", 1, 0);
        }
        faulty("a", 1, 0);
        faulty("z", 1, 0);
        faulty("isst 1;", 1, 0);
        faulty("issuf 1;", 1, 0);
        faulty("jssue 1;", 1, 0);
        faulty("q".repeat(200), 1, 0);
        faulty("late 1; q", 1, 8);
    }

    private static void numbers() {
        promise.says("NUMBERS (1 to 4 figures); 1 a NUMBER that is too long (its first byte)");
        faulty("late ;", 2, 5);
        takes("late 3;", 3, 3);
        takes("late 03;", 3, 3);
        takes("late 003;", 3, 3);
        takes("late 0003;", 3, 3);
        faulty("late 00003;", 1, 5);
        faulty("late 000003;", 1, 5);
        faulty("late 9999;", 3, 5);
        faulty("late 10000;", 1, 5);
        faulty("late 0000 3;", 2, 10);
        faulty("late 4294967299;", 1, 5);
        faulty("late 18446744073709551619;", 1, 5);
        faulty("late " + "0".repeat(194) + "3", 1, 5);
        takes("issue 109;", 0, 109);
        takes("issue 90;", 0, 90);
        takes("expire 378;", 2, 378);
        takes("expire 246;", 2, 246);
        takes("issue 15;", 0, 15);
        faulty("late 3/;", 1, 6);
        faulty("late 3:;", 1, 6);
        faulty("late /3;", 1, 5);
        faulty("late :3;", 1, 5);
    }

    private static void semicolons() {
        promise.says("one ;");
        takes("late 3;", 3, 3);
        faulty("late 3", 2, 6);
        faulty("late 3;;", 2, 7);
        faulty("late 3; ;", 2, 8);
        faulty(";", 2, 0);
        faulty(";late 3;", 2, 0);
        faulty("late;3;", 2, 4);
        faulty("late 3:", 1, 6);
        faulty("late 3<", 1, 6);
    }

    private static void blanks() {
        promise.says("blanks (32) between");
        takes(" late 3;", 3, 3);
        takes("late  3;", 3, 3);
        takes("late 3 ;", 3, 3);
        takes("late 3; ", 3, 3);
        takes("late3;debt4;", 4, 4);
        takes("   late   3   ;   debt   4   ;   ", 4, 4);
        takes(" ".repeat(193) + "late 3;", 3, 3);
        takes("late" + " ".repeat(194) + "3;", 3, 3);
        faulty("la te 3;", 1, 0);
        faulty("late 3 3;", 2, 7);
        for (char c : new char[] {0, '\t', '\n', 31, 33}) {
            faulty(c + "late 3;", 1, 0);
            faulty("late" + c + "3;", 1, 4);
            faulty("late 3" + c + ";", 1, 6);
            faulty("late 3;" + c, 1, 7);
        }
    }

    private static void bytesThatAreNoToken() {
        promise.says("1 no TOKEN");
        for (int b = 0; b < 256; b++) {
            boolean isLetter = b >= 'a' && b <= 'z';
            boolean isFigure = b >= '0' && b <= '9';
            // behind a law a figure and a ; can not stand, a letter is no name, a blank is the end
            String text = "late 3;" + (char) b;
            SitterCircle x = Check.write(new SitterCircle(), text);
            due("vote with byte " + b, x.vote(0), b == ' ' ? 0 : -17);
            int fault = b == ' ' ? 0 : isFigure || b == ';' ? 2 : 1;
            due("fault with byte " + b, x.fault(), fault);
            // behind a name its next letter makes another name, what is no token stands behind it
            SitterCircle y = Check.write(new SitterCircle(), "late" + (char) b + "3;");
            boolean isTaken = b == ' ' || isFigure && b < '5';
            due("vote with byte " + b + " in it", y.vote(0), isTaken ? 0 : isLetter ? -10 : -14);
            due("fault with byte " + b + " in it", y.fault(), isTaken ? 0 : isFigure ? 3 : b == ';' ? 2 : 1);
        }
    }

    private static void tokensThatCanNotStand() {
        promise.says("2 a TOKEN that can not stand there");
        faulty("3", 2, 0);
        faulty("9999 late 3;", 2, 0);
        faulty("late late 3;", 2, 5);
        faulty("late debt 3;", 2, 5);
        faulty("late ;", 2, 5);
        faulty("late 3 late", 2, 7);
        faulty("late 3 debt 4;", 2, 7);
        faulty("late 3 4;", 2, 7);
        faulty("late 3; 4;", 2, 8);
        faulty("late 3;  ;", 2, 9);
    }

    private static void theEndIsTheLength() {
        promise.says("(or the end: the length)");
        String text = "late 3;debt 4;";
        int[] whole = {7, 14};
        for (int length = 0; length <= text.length(); length++) {
            boolean isName = length >= 1 && length <= 3 || length >= 8 && length <= 10;
            boolean isWhole = length == whole[0] || length == whole[1];
            if (isWhole) {
                takes(text.substring(0, length), 3, 3);
            } else if (!isName) {
                faulty(text.substring(0, length), 2, length);
                faulty(text.substring(0, length) + "  ", 2, length + 2);
            }
        }
    }

    private static void theFirstFaultMet() {
        promise.says("the first met as it is read (a TOKEN is read when the one before has been taken)");
        faulty("late 51?", 3, 5);
        faulty("late 51", 3, 5);
        faulty("late 51 foo", 3, 5);
        faulty("late 51 12345", 3, 5);
        faulty("late 50?", 1, 7);
        faulty("late 3;late?", 4, 7);
        faulty("late 3;late foo", 4, 7);
        faulty("late 3;late 99999", 4, 7);
        faulty("late 3;late 51;", 4, 7);
        faulty("late foo", 1, 5);
        faulty("late 3 foo", 1, 7);
        faulty("late 12345 foo", 1, 5);
        faulty("late 3 12345", 1, 7);
        faulty("12345", 1, 0);
        faulty("1234", 2, 0);
        faulty("late 3; 12345", 1, 8);
        faulty("late late?", 2, 5);
        faulty("; ?", 2, 0);
        faulty("? ;", 1, 0);
        // behind the first fault nothing is read any more, whatever stands there
        for (String behind : new String[] {"", "?", " foo", " 12345", ";", " late 51;", " 7"}) {
            faulty("3 " + behind, 2, 0);
            faulty("late ;" + behind, 2, 5);
            faulty("late debt " + behind, 2, 5);
            faulty("late 3 debt " + behind, 2, 7);
            faulty("late 3 4 " + behind, 2, 7);
            faulty("late 3;;" + behind, 2, 7);
            faulty("late 51 " + behind, 3, 5);
            faulty("late 3;late " + behind, 4, 7);
            faulty("late 12345 " + behind, 1, 5);
            faulty("foo " + behind, 1, 0);
            faulty("?" + behind, 1, 0);
        }
    }

    private static int expiredAt(int age, int expire, int ahead) {
        SitterCircle x = Circles.onDay(Check.circle("issue 4;", 1), age);
        Check.write(x, "expire " + expire + ";").vote(age + ahead);
        return x.count(8);
    }

    private static void notesExpireAtTheVote() {
        promise.says("when a TEXT is voted, all are gone that are more than expire DAYS old");
        for (int expire : new int[] {1, 2, 10, 400}) {
            due("a day less than " + expire, expiredAt(expire - 1, expire, 0), 0);
            due("just " + expire, expiredAt(expire, expire, 0), 0);
            due("a day more than " + expire, expiredAt(expire + 1, expire, 0), 4);
            due("voted from the next day on", expiredAt(expire + 1, expire, 1), 0);
        }
        SitterCircle x = Check.circle("issue 4;", 1);
        x.go(10);
        x.join();
        x.leave(0);
        Check.write(x, "expire 1;").vote(10);
        due("what one that left had", x.count(8), 0);
        due("what the other one has", x.told(1, 0), 4);
        due("rule(9, 2)", x.rule(9, 2), NONE);
    }
}
