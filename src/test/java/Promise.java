import java.util.function.Supplier;
import java.util.function.ToIntFunction;

/** The tests of one promise: each sentence of the document that names a boundary has answers of its own. */
final class Promise {
    private final Check check;
    private String sentence = "";
    private int answers;

    Promise(int number, String call) {
        check = new Check("promise " + number + ", " + call);
    }

    /** The document's words that the answers behind this are held to. */
    void says(String words) {
        seeThatItWasTested();
        sentence = words;
        answers = 0;
    }

    void due(String call, long got, long want) {
        answers++;
        check.due("\"" + sentence + "\": " + call, got, want);
    }

    /** The call is refused with this answer, and all is as it was. */
    void refuses(String call, Supplier<SitterCircle> recipe, ToIntFunction<SitterCircle> refused, int want) {
        due(call, refused.applyAsInt(recipe.get()), want);
        same(call, recipe, refused, x -> 0);
    }

    /** Two ways on from the same object lead to the same. */
    void same(String call, Supplier<SitterCircle> recipe, ToIntFunction<SitterCircle> way,
            ToIntFunction<SitterCircle> other) {
        Whole got = Whole.of(recipe, way);
        Whole want = Whole.of(recipe, other);
        due(call + ": as many answers behind it", got.size(), want.size());
        for (int i = 0; i < got.size() && i < want.size(); i++) {
            if (got.answer(i) != want.answer(i)) {
                due(call + ": then " + want.call(i), got.answer(i), want.answer(i));
            }
        }
    }

    private void seeThatItWasTested() {
        if (!sentence.isEmpty()) {
            check.due("answers held to \"" + sentence + "\"", answers > 0 ? 1 : 0, 1);
        }
    }

    void finish() {
        seeThatItWasTested();
        check.finish();
    }
}
