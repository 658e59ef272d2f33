import java.util.ArrayList;
import java.util.List;
import java.util.TreeSet;

/**
 * The document once more, as plainly and as unlike the class as may be: every note is an own
 * number in a list, matches are tried out one by one, texts are kept as words.
 */
final class CircleModel {
    private static final int BAD = -1, STATE = -2, FULL = -3, NONE = -4;
    private static final List<String> NAMES = List.of("issue", "double", "expire", "late", "debt");
    private static final int[] LEAST = {0, 0, 1, 0, 0};
    private static final int[] MOST = {200, 47, 400, 50, 100};

    private record Text(int from, Integer[] laws) { }

    private record Visit(int family, int from, int to) { }

    private static final class House {
        final List<Integer> notes = new ArrayList<>();
        final TreeSet<Integer> bars = new TreeSet<>();
        int owes;
        int sat;
        int satFor;
        boolean left;
    }

    private static final class Fault extends RuntimeException {
        private static final long serialVersionUID = 1;
        final int which;
        final int place;

        Fault(int which, int place) {
            this.which = which;
            this.place = place;
        }
    }

    private final StringBuilder tape = new StringBuilder();
    private final List<Text> texts = new ArrayList<>();
    private final List<House> houses = new ArrayList<>();
    private List<Visit> asks = new ArrayList<>();
    private List<Visit> offers = new ArrayList<>();
    private final Object[] sheets = new Object[4];
    private int day;
    private int fault;
    private int came;
    private int expired;
    private int givenUp;

    int feed(long v) {
        if (tape.length() + 8 > 200) {
            return FULL;
        }
        for (int shift = 56; shift >= 0; shift -= 8) {
            tape.append((char) (v >> shift & 255));
        }
        return tape.length();
    }

    int end(int n) {
        int had = tape.length();
        if (n < 0 || n > had) {
            return BAD;
        }
        tape.setLength(n);
        return had;
    }

    int vote(int from) {
        if (from < day || from > 2000) {
            return BAD;
        }
        if (texts.size() == 6) {
            return FULL;
        }
        String s = tape.toString();
        tape.setLength(0);
        try {
            texts.add(new Text(from, parse(s)));
        } catch (Fault f) {
            fault = f.which;
            return -10 - f.place;
        }
        fault = 0;
        expire();
        return texts.size() - 1;
    }

    private static Integer[] parse(String s) {
        Integer[] laws = new Integer[5];
        int[] at = {0};
        boolean any = false;
        while (true) {
            String name = token(s, at);
            int start = at[0] - name.length();
            if (name.isEmpty() && any) {
                return laws;
            }
            int law = NAMES.indexOf(name);
            if (law < 0) {
                throw new Fault(2, start);
            }
            if (laws[law] != null) {
                throw new Fault(4, start);
            }
            String number = token(s, at);
            start = at[0] - number.length();
            if (!number.matches("[0-9]+")) {
                throw new Fault(2, start);
            }
            int value = Integer.parseInt(number);
            if (value < LEAST[law] || value > MOST[law]) {
                throw new Fault(3, start);
            }
            String semicolon = token(s, at);
            if (!semicolon.equals(";")) {
                throw new Fault(2, at[0] - semicolon.length());
            }
            laws[law] = value;
            any = true;
        }
    }

    /** The token behind at[0], which then is behind the token; empty at the end. */
    private static String token(String s, int[] at) {
        String rest = s.substring(at[0]);
        String blanks = rest.replaceAll("(?s)[^ ].*", "");
        at[0] += blanks.length();
        rest = rest.substring(blanks.length());
        if (rest.isEmpty()) {
            return "";
        }
        String word = rest.startsWith(";") ? ";" : rest.replaceAll("(?s)[^a-z].*", "");
        if (word.isEmpty()) {
            word = rest.replaceAll("(?s)[^0-9].*", "");
        }
        boolean isName = !word.isEmpty() && Character.isLetter(word.charAt(0));
        if (word.isEmpty() || isName && !NAMES.contains(word) || !isName && word.length() > 4) {
            throw new Fault(1, at[0]);
        }
        at[0] += word.length();
        return word;
    }

    int fault() {
        return fault;
    }

    int unwind() {
        if (texts.isEmpty()) {
            return NONE;
        }
        int last = texts.size() - 1;
        if (texts.get(last).from <= day) {
            return STATE;
        }
        texts.remove(last);
        return last;
    }

    int rule(int of, int what) {
        if (of < 0 || of > 2000 || what < 0 || what > 5) {
            return BAD;
        }
        int text = NONE;
        for (int d = of; d >= 0 && text == NONE; d--) {
            for (int t = texts.size() - 1; t >= 0 && text == NONE; t--) {
                text = texts.get(t).from == d ? t : NONE;
            }
        }
        if (what == 5) {
            return text;
        }
        Integer told = text == NONE ? null : texts.get(text).laws[what];
        if (told != null) {
            return told;
        }
        return what == 1 || what == 2 ? NONE : 0;
    }

    private void expire() {
        int most = rule(day, 2);
        if (most == NONE) {
            return;
        }
        for (House h : houses) {
            int had = h.notes.size();
            h.notes.removeIf(d -> day - d > most);
            expired += had - h.notes.size();
        }
    }

    int go(int n) {
        if (n < 1 || n > 100) {
            return BAD;
        }
        if (day + n > 2000 || !asks.isEmpty() || !offers.isEmpty()) {
            return STATE;
        }
        for (int i = 0; i < n; i++) {
            day++;
            expire();
        }
        return day;
    }

    int join() {
        if (houses.size() == 12) {
            return FULL;
        }
        House h = new House();
        houses.add(h);
        getNew(h, rule(day, 0));
        return houses.size() - 1;
    }

    private void getNew(House h, int n) {
        for (int i = 0; i < n; i++) {
            h.notes.add(day);
            came++;
        }
    }

    private boolean isFamily(int f) {
        return f >= 0 && f < houses.size() && !houses.get(f).left;
    }

    int leave(int f) {
        if (!isFamily(f)) {
            return BAD;
        }
        House h = houses.get(f);
        boolean busy = asks.stream().anyMatch(v -> v.family == f) || offers.stream().anyMatch(v -> v.family == f);
        if (h.owes > 0 || busy) {
            return STATE;
        }
        int had = h.notes.size();
        h.notes.clear();
        h.left = true;
        givenUp += had;
        return had;
    }

    int bar(int f, int other, boolean on) {
        if (!isFamily(f) || !isFamily(other) || f == other) {
            return BAD;
        }
        TreeSet<Integer> bars = houses.get(f).bars;
        boolean did = on ? !bars.add(other) : bars.remove(other);
        return did ? 1 : 0;
    }

    int told(int f, int what) {
        if (!isFamily(f) || what < 0 || what > 5) {
            return BAD;
        }
        House h = houses.get(f);
        int oldest = h.notes.stream().mapToInt(d -> d).min().orElse(NONE);
        int next = (int) h.notes.stream().filter(d -> d == oldest).count();
        return new int[] {h.notes.size(), h.owes, oldest, h.sat, h.satFor, next}[what];
    }

    int ask(int f, int from, int to) {
        return visit(asks, f, from, to);
    }

    int offer(int f, int from, int to) {
        return visit(offers, f, from, to);
    }

    private int visit(List<Visit> visits, int f, int from, int to) {
        if (!isFamily(f) || from < 0 || from > 48 || to < 0 || to > 48 || from >= to) {
            return BAD;
        }
        if (visits.size() == 10) {
            return FULL;
        }
        visits.add(new Visit(f, from, to));
        return visits.size() - 1;
    }

    int price(int ask) {
        if (ask < 0 || ask >= asks.size()) {
            return BAD;
        }
        int twice = rule(day, 1);
        int sum = 0;
        for (int h = asks.get(ask).from; h < asks.get(ask).to; h++) {
            sum += twice != NONE && h >= twice ? 2 : 1;
        }
        return sum;
    }

    private boolean mayPay(House h, int amount, int debt) {
        int lacking = amount > h.notes.size() ? amount - h.notes.size() : 0;
        return h.owes + lacking <= debt;
    }

    private boolean isFit(int ask, int offer, int debt) {
        Visit a = asks.get(ask);
        Visit o = offers.get(offer);
        if (a.family == o.family || houses.get(a.family).bars.contains(o.family)
                || houses.get(o.family).bars.contains(a.family)) {
            return false;
        }
        for (int h = a.from; h < a.to; h++) {
            if (h < o.from || h >= o.to) {
                return false;
            }
        }
        return mayPay(houses.get(a.family), price(ask), debt);
    }

    int fits(int ask, int offer) {
        if (ask < 0 || ask >= asks.size() || offer < 0 || offer >= offers.size()) {
            return BAD;
        }
        return isFit(ask, offer, rule(day, 4)) ? 1 : 0;
    }

    /** best[a][used]: the most pairs of the asks from a on when these offers are used. */
    private int[][] best(int debt) {
        int all = 1 << offers.size();
        int[][] best = new int[asks.size() + 1][all];
        for (int a = asks.size() - 1; a >= 0; a--) {
            boolean[] fit = new boolean[offers.size()];
            for (int o = 0; o < fit.length; o++) {
                fit[o] = isFit(a, o, debt);
            }
            for (int used = 0; used < all; used++) {
                best[a][used] = best[a + 1][used];
                for (int o = 0; o < fit.length; o++) {
                    if (fit[o] && (used >> o & 1) == 0) {
                        best[a][used] = Math.max(best[a][used], 1 + best[a + 1][used | 1 << o]);
                    }
                }
            }
        }
        return best;
    }

    private int[] theMatch() {
        int debt = rule(day, 4);
        int[][] best = best(debt);
        int[] match = new int[asks.size()];
        int used = 0;
        for (int a = 0; a < match.length; a++) {
            match[a] = NONE;
            for (int o = offers.size() - 1; o >= 0; o--) {
                if ((used >> o & 1) == 0 && isFit(a, o, debt)
                        && 1 + best[a + 1][used | 1 << o] == best[a][used]) {
                    match[a] = o;
                }
            }
            used |= match[a] == NONE ? 0 : 1 << match[a];
        }
        return match;
    }

    int met() {
        return best(rule(day, 4))[0][0];
    }

    int sitter(int ask) {
        return ask < 0 || ask >= asks.size() ? BAD : theMatch()[ask];
    }

    int why(int what) {
        if (what < 0 || what > 1) {
            return BAD;
        }
        int[] match = theMatch();
        TreeSet<Integer> reachedAsks = new TreeSet<>();
        TreeSet<Integer> reachedOffers = new TreeSet<>();
        List<Integer> waiting = new ArrayList<>();
        for (int a = 0; a < match.length; a++) {
            if (match[a] == NONE) {
                waiting.add(a);
            }
        }
        while (!waiting.isEmpty()) {
            int ask = waiting.remove(waiting.size() - 1);
            reachedAsks.add(ask);
            for (int o = 0; o < offers.size(); o++) {
                if (fits(ask, o) == 1 && reachedOffers.add(o)) {
                    for (int a = 0; a < match.length; a++) {
                        if (match[a] == o && !reachedAsks.contains(a)) {
                            waiting.add(a);
                        }
                    }
                }
            }
        }
        int sum = 0;
        for (int i = 0; i < (what == 0 ? asks : offers).size(); i++) {
            boolean is = what == 0 ? !reachedAsks.contains(i) : reachedOffers.contains(i);
            sum += is ? 1 << i : 0;
        }
        return sum;
    }

    int would(int n) {
        return n < 0 || n > 1000 ? BAD : best(n)[0][0];
    }

    private void pay(House x, House y, int amount) {
        List<Integer> gets = new ArrayList<>();
        for (int i = 0; i < amount; i++) {
            if (x.notes.isEmpty()) {
                x.owes++;
                gets.add(day);
                came++;
            } else {
                x.notes.sort(null);
                gets.add(x.notes.remove(0));
            }
        }
        gets.sort(null);
        while (y.owes > 0 && !gets.isEmpty()) {
            gets.remove(gets.size() - 1);
            y.owes--;
            givenUp++;
        }
        y.notes.addAll(gets);
    }

    int broken(int ask) {
        if (ask < 0 || ask >= asks.size()) {
            return BAD;
        }
        int offer = theMatch()[ask];
        int paid = 0;
        if (offer != NONE) {
            paid = rule(day, 3);
            pay(houses.get(asks.get(ask).family), houses.get(offers.get(offer).family), paid);
        }
        asks.remove(ask);
        return paid;
    }

    int evening() {
        int[] match = theMatch();
        int held = 0;
        for (int a = 0; a < match.length; a++) {
            House asking = houses.get(asks.get(a).family);
            if (match[a] != NONE && mayPay(asking, price(a), rule(day, 4))) {
                House sitting = houses.get(offers.get(match[a]).family);
                pay(asking, sitting, price(a));
                sitting.sat += price(a);
                asking.satFor++;
                held++;
            }
        }
        asks = new ArrayList<>();
        offers = new ArrayList<>();
        return held;
    }

    int sheet(int k, int lane, int n) {
        if (k < 0 || k > 3 || lane < 0 || lane > 1 || n > 60) {
            return BAD;
        }
        try {
            sheets[k] = lane == 0 ? new byte[n] : (Object) new int[n];
        } catch (NegativeArraySizeException e) {
            return -14;
        }
        return 1;
    }

    int lay(int k, int i, int v) {
        if (k < 0 || k > 3) {
            return BAD;
        }
        try {
            if (sheets[k] instanceof byte[] bytes) {
                bytes[i] = (byte) v;
            } else {
                ((int[]) sheets[k])[i] = v;
            }
        } catch (NullPointerException e) {
            return -11;
        } catch (ArrayIndexOutOfBoundsException e) {
            return -12;
        }
        return 1;
    }

    private int cell(int k, int lane, int i) {
        return lane == 0 ? ((byte[]) sheets[k])[i] : ((int[]) sheets[k])[i];
    }

    int offers(int k, int lane, int c, int n) {
        if (k < 0 || k > 3 || lane < 0 || lane > 1 || n < 0 || n > 10) {
            return BAD;
        }
        if (sheets[k] == null) {
            return -11;
        }
        if (sheets[k] instanceof byte[] != (lane == 0)) {
            return -13;
        }
        List<Visit> before = new ArrayList<>(offers);
        for (int i = 0; i < n; i++) {
            int answer;
            try {
                int at = c + 3 * i;
                int refused = offer(cell(k, lane, at), cell(k, lane, at + 1), cell(k, lane, at + 2));
                answer = refused < 0 ? -20 + refused : 0;
            } catch (ArrayIndexOutOfBoundsException e) {
                answer = -12;
            }
            if (answer < 0) {
                offers = before;
                return answer;
            }
        }
        return n;
    }

    int count(int what) {
        int here = 0;
        int notes = 0;
        int owed = 0;
        for (House h : houses) {
            here += h.left ? 0 : 1;
            notes += h.notes.size();
            owed += h.owes;
        }
        int[] all = {here, texts.size(), day, asks.size(), offers.size(), notes, owed, came, expired, givenUp};
        return what < 0 || what >= all.length ? BAD : all[what];
    }
}
