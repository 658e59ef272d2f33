/** Circles that many tests begin with; each call makes the same one anew. */
final class Circles {
    private Circles() {
    }

    /** Day 3, a bit of everything: what a refused call could spoil. */
    static SitterCircle busy() {
        SitterCircle x = Check.circle("issue 6; double 40; late 2; debt 9;", 4);
        x.go(2);
        x.join();
        sit(x, 0, 1, 8);                                    // 0 has none then, and owes 2
        x.leave(3);
        Check.write(x, "issue 7; late 5; debt 20;").vote(2);
        Check.write(x, "issue 8; expire 2;").vote(9);
        Check.write(x, "foo").vote(2);
        x.go(1);
        x.bar(1, 2, true);
        x.ask(1, 10, 14);
        x.ask(2, 20, 22);
        x.ask(4, 20, 24);
        x.offer(4, 8, 16);
        x.offer(1, 20, 22);
        x.offer(2, 18, 30);
        row(x, 0, 0, 1, 10, 20, 2, 5, 26, 4, 0, 48);
        row(x, 1, 1, 0, 1, 2, 2, 3, 34, 9);
        x.sheet(2, 1, 0);
        return Check.write(x, "debt 4; late 1;");
    }

    /** Day 5, of everything as much as there may be. */
    static SitterCircle full() {
        SitterCircle x = Check.circle("issue 2; debt 30; late 3;", 12);
        x.leave(11);
        x.go(5);
        for (int text = 1; text < 5; text++) {
            Check.write(x, "issue " + text + "; debt 20; late 4;").vote(5);
        }
        Check.write(x, "issue 9; debt 2;").vote(9);
        for (int i = 0; i < 10; i++) {
            x.ask(i, 2 * i, 2 * i + 4);
            x.offer((i + 3) % 10, i, 14 + 3 * i);
        }
        for (int k = 0; k < 4; k++) {
            x.sheet(k, k % 2, 60);
            x.lay(k, 57, 3);
            x.lay(k, 59, 7 + k);
        }
        return filled(x, "late 7;", 200);
    }

    /** The tape gets this text, and blanks behind it up to a length. */
    static SitterCircle filled(SitterCircle x, String text, int length) {
        return Check.write(x, text + " ".repeat(length - text.length()));
    }

    static SitterCircle onDay(SitterCircle x, int day) {
        while (x.count(2) < day) {
            x.go(Math.min(100, day - x.count(2)));
        }
        return x;
    }

    /** Family g sits for f, from half hour 0 on; the price goes over. */
    static int sit(SitterCircle x, int f, int g, int halfHours) {
        x.ask(f, 0, halfHours);
        x.offer(g, 0, halfHours);
        return x.evening();
    }

    /** A sheet with these cells. */
    static SitterCircle row(SitterCircle x, int k, int lane, int... cells) {
        x.sheet(k, lane, cells.length);
        for (int i = 0; i < cells.length; i++) {
            x.lay(k, i, cells[i]);
        }
        return x;
    }

    /** Each ask is of a family of its own, likewise each offer: in row a the bits of the offers that fit ask a. */
    static SitterCircle grid(int offers, int... rows) {
        SitterCircle x = Check.circle("issue 9;", 12);
        for (int a = 0; a < rows.length; a++) {
            x.ask(a, 0, 1);
        }
        for (int o = 0; o < offers; o++) {
            x.offer(rows.length + o, 0, 1);
            for (int a = 0; a < rows.length; a++) {
                x.bar(a, rows.length + o, (rows[a] >> o & 1) == 0);
            }
        }
        return x;
    }
}
