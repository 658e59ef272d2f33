/** Promises 23 to 26: sheets, the offers read of them, the counts. */
public final class SheetsTest {
    private static final int BAD = SitterCircle.BAD;

    private static final Check check = new Check("SheetsTest");

    public static void main(String[] args) {
        sheet();
        lay();
        bytesKeepTheLowestBits();
        offersAnswers();
        offersInOrder();
        offersWhenFull();
        count();
        check.finish();
    }

    private static void due(String call, long got, long want) {
        check.due(call, got, want);
    }

    private static void sheet() {
        SitterCircle x = Check.circle("", 2);
        due("sheet(-1, 0, 3)", x.sheet(-1, 0, 3), BAD);
        due("sheet(4, 0, 3)", x.sheet(4, 0, 3), BAD);
        due("sheet(0, -1, 3)", x.sheet(0, -1, 3), BAD);
        due("sheet(0, 2, 3)", x.sheet(0, 2, 3), BAD);
        due("sheet(0, 0, 61)", x.sheet(0, 0, 61), BAD);
        due("sheet(0, 2, -1)", x.sheet(0, 2, -1), BAD);
        due("sheet(4, 0, -1)", x.sheet(4, 0, -1), BAD);
        due("sheet(0, 0, -1)", x.sheet(0, 0, -1), -14);
        due("sheet(0, 1, MIN)", x.sheet(0, 1, Integer.MIN_VALUE), -14);
        due("still nothing", x.lay(0, 0, 0), -11);
        due("sheet(0, 0, 60)", x.sheet(0, 0, 60), 1);
        due("sheet(3, 1, 0)", x.sheet(3, 1, 0), 1);
        due("lay(0, 59, 1)", x.lay(0, 59, 1), 1);
        due("refused", x.sheet(0, 1, -5), -14);
        due("it stays as it was", x.lay(0, 59, 1), 1);
        // a new row has cells 0 again
        x.lay(0, 2, 5);
        due("offer of family 0", x.offers(0, 0, 0, 1), 1);
        due("a new row", x.sheet(0, 0, 60), 1);
        due("no half hour in it", x.offers(0, 0, 0, 1), -21);
        due("of another lane", x.sheet(0, 1, 3), 1);
        due("the lane is another one", x.offers(0, 0, 0, 0), -13);
        due("its length, too", x.lay(0, 3, 0), -12);
    }

    private static void lay() {
        SitterCircle x = Check.circle("", 1);
        due("lay(-1, 0, 0)", x.lay(-1, 0, 0), BAD);
        due("lay(4, 0, 0)", x.lay(4, 0, 0), BAD);
        due("lay on nothing", x.lay(2, 0, 0), -11);
        due("lay on nothing, beyond", x.lay(2, -1, 0), -11);
        x.sheet(2, 1, 5);
        due("lay(2, -1, 0)", x.lay(2, -1, 0), -12);
        due("lay(2, 5, 0)", x.lay(2, 5, 0), -12);
        due("lay(2, MAX, 0)", x.lay(2, Integer.MAX_VALUE, 0), -12);
        due("lay(2, 4, 0)", x.lay(2, 4, 0), 1);
        due("lay(2, 0, 0)", x.lay(2, 0, 0), 1);
        x.sheet(2, 0, 0);
        due("no cells", x.lay(2, 0, 0), -12);
    }

    private static void row(SitterCircle x, int k, int lane, int... cells) {
        x.sheet(k, lane, cells.length);
        for (int i = 0; i < cells.length; i++) {
            due("lay", x.lay(k, i, cells[i]), 1);
        }
    }

    private static void bytesKeepTheLowestBits() {
        SitterCircle x = Check.circle("issue 48;", 2);
        row(x, 0, 0, 257, 512 + 3, -256 + 9);
        due("bytes", x.offers(0, 0, 0, 1), 1);
        x.ask(0, 3, 9);
        due("3 to 9 of family 1", x.fits(0, 0), 1);
        x.ask(0, 2, 9);
        x.ask(0, 3, 10);
        due("not from 2", x.fits(1, 0), 0);
        due("not to 10", x.fits(2, 0), 0);
        row(x, 1, 1, 257, 3, 9);
        due("ints", x.offers(1, 1, 0, 1), -21);
        row(x, 2, 0, 255, 3, 9);
        due("a byte below 0", x.offers(2, 0, 0, 1), -21);
        row(x, 3, 0, 0, 128, 48);
        due("a from below 0", x.offers(3, 0, 0, 1), -21);
    }

    private static void offersAnswers() {
        SitterCircle x = Check.circle("", 3);
        due("k -1", x.offers(-1, 0, 0, 0), BAD);
        due("k 4", x.offers(4, 0, 0, 0), BAD);
        due("lane -1", x.offers(0, -1, 0, 0), BAD);
        due("lane 2", x.offers(0, 2, 0, 0), BAD);
        due("n -1", x.offers(0, 0, 0, -1), BAD);
        due("n 11", x.offers(0, 0, 0, 11), BAD);
        due("nothing", x.offers(0, 1, 99, 10), -11);
        row(x, 0, 1, 0, 1, 2, 1, 2, 3, 2, 3, 4);
        due("another lane", x.offers(0, 0, 99, 10), -13);
        due("n 0 anywhere", x.offers(0, 1, 99, 0), 0);
        due("n 0 below", x.offers(0, 1, -99, 0), 0);
        due("c 7", x.offers(0, 1, 7, 1), -12);
        due("c 9", x.offers(0, 1, 9, 1), -12);
        due("c MAX", x.offers(0, 1, Integer.MAX_VALUE, 2), -12);
        due("c MIN", x.offers(0, 1, Integer.MIN_VALUE, 1), -12);
        due("c -3", x.offers(0, 1, -3, 2), -12);
        due("none came", x.count(4), 0);
        due("the last one", x.offers(0, 1, 6, 1), 1);
        due("all", x.offers(0, 1, 0, 3), 3);
        due("came", x.count(4), 4);
        due("in order", x.leave(0), -2);
        x.ask(0, 2, 3);
        due("the third is of 1", x.fits(0, 2), 0);
        Check.write(x, "debt 5;").vote(0);
        due("fits", x.fits(0, 2), 1);
        due("not the fourth", x.fits(0, 3), 0);
    }

    private static void offersInOrder() {
        SitterCircle x = Check.circle("", 2);
        row(x, 0, 1, 0, 1, 2, 9, 9, 9, 1);
        due("the second is refused", x.offers(0, 1, 0, 3), -21);
        due("none came of it", x.count(4), 0);
        row(x, 0, 1, 0, 1, 2, 1, 0, 48, 1, 2);
        due("the third has no cells", x.offers(0, 1, 0, 3), -12);
        due("none came of these", x.count(4), 0);
        due("two are fine", x.offers(0, 1, 0, 2), 2);
        due("refused later", x.offers(0, 1, 0, 3), -12);
        due("the two stay", x.count(4), 2);
    }

    private static void offersWhenFull() {
        SitterCircle x = Check.circle("", 1);
        x.sheet(1, 1, 33);
        for (int i = 0; i < 11; i++) {
            x.lay(1, 3 * i + 2, i + 1);
        }
        for (int i = 0; i < 8; i++) {
            x.offer(0, 0, 1);
        }
        due("three more", x.offers(1, 1, 0, 3), -23);
        due("none came", x.count(4), 8);
        due("two more", x.offers(1, 1, 0, 2), 2);
        due("one more", x.offers(1, 1, 0, 1), -23);
        due("zero more", x.offers(1, 1, 0, 0), 0);
        x.lay(1, 2, 0);
        due("bad before full", x.offers(1, 1, 0, 1), -21);
        due("ten", x.count(4), 10);
        x.evening();
        due("ten at once", x.offers(1, 1, 3, 10), 10);
    }

    private static void count() {
        SitterCircle x = Check.circle("issue 4; expire 3; debt 9; late 1;", 3);
        Check.write(x, "issue 5; debt 9;").vote(2);
        x.go(2);
        x.join();
        x.ask(0, 0, 6);
        x.ask(1, 0, 1);
        x.ask(1, 0, 48);
        x.offer(2, 0, 6);
        x.offer(3, 0, 6);
        int[] before = {4, 2, 2, 3, 2, 17, 0, 17, 0, 0};
        for (int what = 0; what < before.length; what++) {
            due("before: count(" + what + ")", x.count(what), before[what]);
        }
        due("evening", x.evening(), 2);
        x.leave(3);
        Check.write(x, "expire 1;").vote(2);
        // 0 paid 4 of day 0 and 2 of day 2 to 2; 1 paid 1 of day 0 to 3, which left with 6
        int[] after = {3, 3, 2, 0, 0, 2, 2, 19, 11, 6};
        for (int what = 0; what < after.length; what++) {
            due("after: count(" + what + ")", x.count(what), after[what]);
        }
        due("came is had, expired, given up", x.count(7), x.count(5) + x.count(8) + x.count(9));
        due("count(-1)", x.count(-1), BAD);
        due("count(10)", x.count(10), BAD);
    }
}
