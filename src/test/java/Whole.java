import java.util.ArrayList;
import java.util.List;
import java.util.function.Consumer;
import java.util.function.Supplier;
import java.util.function.ToIntFunction;

/**
 * All that the calls tell of an object. It is told in parts, each on an object made anew, since many
 * calls change what they look at, and no object is promised to answer more than 512 of them.
 */
final class Whole {
    private static final int FAMILIES = 12, VISITS = 10, SHEETS = 4, CELLS = 60;

    private final List<String> calls = new ArrayList<>();
    private final List<Integer> answers = new ArrayList<>();

    private Whole() {
    }

    static Whole of(Supplier<SitterCircle> recipe, ToIntFunction<SitterCircle> change) {
        Whole whole = new Whole();
        List<Consumer<SitterCircle>> parts = new ArrayList<>(List.of(
                whole::numbers, whole::rules, whole::evening, whole::held, whole::bars, whole::tape,
                whole::texts, whole::ages, whole::comers));
        for (int k = 0; k < SHEETS; k++) {
            int sheet = k;
            parts.add(x -> whole.cells(x, sheet));
        }
        for (Consumer<SitterCircle> part : parts) {
            SitterCircle x = recipe.get();
            change.applyAsInt(x);
            part.accept(x);
        }
        return whole;
    }

    int size() {
        return answers.size();
    }

    String call(int i) {
        return calls.get(i);
    }

    int answer(int i) {
        return answers.get(i);
    }

    private void tell(String call, int answer) {
        calls.add(call);
        answers.add(answer);
    }

    private void numbers(SitterCircle x) {
        tell("fault()", x.fault());
        for (int what = 0; what < 10; what++) {
            tell("count(" + what + ")", x.count(what));
        }
        for (int f = 0; f < FAMILIES; f++) {
            for (int what = 0; what < 6; what++) {
                tell("told(" + f + ", " + what + ")", x.told(f, what));
            }
        }
    }

    private void rules(SitterCircle x) {
        int now = x.count(2);
        for (int day : new int[] {0, 1, 2, now, now + 1, now + 2, now + 6, 2000}) {
            for (int what = 0; what < 6; what++) {
                tell("rule(" + day + ", " + what + ")", x.rule(day, what));
            }
        }
    }

    private void evening(SitterCircle x) {
        for (int ask = 0; ask < VISITS; ask++) {
            tell("price(" + ask + ")", x.price(ask));
            tell("sitter(" + ask + ")", x.sitter(ask));
            for (int offer = 0; offer < VISITS; offer++) {
                tell("fits(" + ask + ", " + offer + ")", x.fits(ask, offer));
            }
        }
        tell("met()", x.met());
        tell("why(0)", x.why(0));
        tell("why(1)", x.why(1));
        for (int debt : new int[] {0, 1, 2, 9, 50, 1000}) {
            tell("would(" + debt + ")", x.would(debt));
        }
    }

    private void held(SitterCircle x) {
        tell("broken(1)", x.broken(1));
        tell("evening()", x.evening());
        for (int f = 0; f < FAMILIES; f++) {
            for (int what = 0; what < 6; what++) {
                tell("told(" + f + ", " + what + ") when held", x.told(f, what));
            }
        }
    }

    private void bars(SitterCircle x) {
        for (int f = 0; f < FAMILIES; f++) {
            for (int g = 0; g < FAMILIES; g++) {
                tell("bar(" + f + ", " + g + ", false)", x.bar(f, g, false));
            }
        }
    }

    private void tape(SitterCircle x) {
        int length = 200;
        while (length > 0 && x.end(length) == SitterCircle.BAD) {
            length--;
        }
        tell("length of the tape", length);
        // there may be room for no other text
        tell("unwind()", x.unwind());
        tell("vote(2000)", x.vote(2000));
        tell("fault() of the tape", x.fault());
        tell("feed(0)", x.feed(0));
        for (int what = 0; what < 6; what++) {
            tell("rule(2000, " + what + ") of the tape", x.rule(2000, what));
        }
    }

    private void texts(SitterCircle x) {
        for (int i = 0; i < 7; i++) {
            tell("unwind() " + i, x.unwind());
            for (int what = 0; what < 6; what++) {
                tell("rule(2000, " + what + ") after unwind " + i, x.rule(2000, what));
            }
        }
    }

    /** By their going it is seen of what days the notes are. */
    private void ages(SitterCircle x) {
        x.end(0);
        x.unwind();
        x.evening();
        Check.write(x, "expire 12;");
        tell("vote on expiring", x.vote(x.count(2)));
        for (int day = 0; day < 18; day++) {
            tell("go(1) " + day, x.go(1));
            tell("expired after " + day, x.count(8));
            for (int f = 0; f < FAMILIES; f++) {
                tell("notes of " + f + " after " + day, x.told(f, 0));
            }
        }
    }

    private void comers(SitterCircle x) {
        for (int i = 0; i < 13; i++) {
            tell("join() " + i, x.join());
        }
        tell("notes that came", x.count(7));
        for (int i = 0; i < 11; i++) {
            tell("ask " + i, x.ask(1, 0, 1));
            tell("offer " + i, x.offer(2, 0, 1));
        }
        tell("a pair", x.fits(0, 0));
        x.evening();
        for (int f = 0; f < FAMILIES; f++) {
            tell("leave(" + f + ")", x.leave(f));
        }
        tell("given up", x.count(9));
        tell("sheet", x.sheet(3, 1, 1));
    }

    private void cells(SitterCircle x, int k) {
        for (int lane = 0; lane < 2; lane++) {
            for (int c = 0; c < CELLS; c++) {
                tell("offers(" + k + ", " + lane + ", " + c + ", 1)", x.offers(k, lane, c, 1));
            }
            tell("offers of lane " + lane, x.count(4));
            for (int offer = 0; offer < VISITS; offer++) {
                for (int ask = 0; ask < 3; ask++) {
                    tell("fits(" + ask + ", " + offer + ") of the sheet", x.fits(ask, offer));
                }
            }
        }
    }
}
