import java.util.Arrays;

/** A circle of families who mind one another's children for paper half hours. */
public final class SitterCircle {
    public static final int BAD = -1, STATE = -2, FULL = -3, NONE = -4;

    private static final int LAST_DAY = 2000;
    private static final int MOST_DAYS_AT_ONCE = 100;
    private static final int MOST_FAMILIES = 12;
    private static final int MOST_VISITS = 10;
    private static final int HALF_HOURS = 48;
    private static final int MOST_WOULD_DEBT = 1000;

    private static final int ISSUE = 0, DOUBLE = 1, EXPIRE = 2, LATE = 3, DEBT = 4;
    private static final int LAW_KINDS = 5;
    private static final int WHICH_TEXT = 5;

    private static final int FAULT_ANSWER = -10;
    private static final int REFUSED_ANSWER = -20;

    private static final int SHEETS = 4;
    private static final int BYTES = 0, INTS = 1;
    private static final int MOST_CELLS = 60;
    private static final int CELLS_OF_OFFER = 3;
    private static final int NULL_FAULT = 1, INDEX_FAULT = 2, CAST_FAULT = 3, SIZE_FAULT = 4;

    private final Tape tape = new Tape();
    private final Reader reader = new Reader();
    private final Lawbook lawbook = new Lawbook();
    private final Family[] families = new Family[MOST_FAMILIES];
    private final Visits asked = new Visits();
    private final Visits offered = new Visits();
    private final Matcher matcher = new Matcher();
    private final Row[] sheets = new Row[SHEETS];
    private int familiesCame;
    private int today;
    private int latestFault;
    private int notesCame;
    private int notesExpired;
    private int notesGivenUp;

    public SitterCircle() {
    }

    // ---- texts and days

    public int feed(long v) {
        return tape.append(v) ? tape.length : FULL;
    }

    public int end(int n) {
        int had = tape.length;
        if (n < 0 || n > had) {
            return BAD;
        }
        tape.length = n;
        return had;
    }

    public int vote(int day) {
        if (day < today || day > LAST_DAY) {
            return BAD;
        }
        if (lawbook.isFull()) {
            return FULL;
        }
        reader.read(tape);
        tape.length = 0;
        latestFault = reader.found;
        if (latestFault != 0) {
            return FAULT_ANSWER - reader.place;
        }
        int number = lawbook.add(day, reader.laws);
        expireNotes();
        return number;
    }

    public int fault() {
        return latestFault;
    }

    public int unwind() {
        if (lawbook.size == 0) {
            return NONE;
        }
        if (lawbook.latestDay() <= today) {
            return STATE;
        }
        lawbook.size--;
        return lawbook.size;
    }

    public int rule(int day, int what) {
        if (day < 0 || day > LAST_DAY || what < 0 || what > WHICH_TEXT) {
            return BAD;
        }
        return what == WHICH_TEXT ? lawbook.textOf(day) : lawbook.lawOf(day, what);
    }

    public int go(int n) {
        if (n < 1 || n > MOST_DAYS_AT_ONCE) {
            return BAD;
        }
        if (today + n > LAST_DAY || asked.size > 0 || offered.size > 0) {
            return STATE;
        }
        // Day by day, since a text may count for a few of these days only.
        for (int i = 0; i < n; i++) {
            today++;
            expireNotes();
        }
        return today;
    }

    // ---- families

    public int join() {
        if (familiesCame >= MOST_FAMILIES) {
            return FULL;
        }
        Family family = new Family();
        int issued = lawbook.lawOf(today, ISSUE);
        family.purse.put(today, issued);
        notesCame += issued;
        families[familiesCame] = family;
        familiesCame++;
        return familiesCame - 1;
    }

    public int leave(int f) {
        Family family = familyAt(f);
        if (family == null) {
            return BAD;
        }
        if (family.owes > 0 || asked.areOf(f) || offered.areOf(f)) {
            return STATE;
        }
        int notes = family.purse.total;
        notesGivenUp += notes;
        families[f] = null;
        return notes;
    }

    public int bar(int f, int other, boolean on) {
        Family family = familyAt(f);
        if (family == null || familyAt(other) == null || f == other) {
            return BAD;
        }
        int did = family.doesBar(other) ? 1 : 0;
        family.setBar(other, on);
        return did;
    }

    public int told(int f, int what) {
        Family family = familyAt(f);
        if (family == null) {
            return BAD;
        }
        switch (what) {
            case 0: return family.purse.total;
            case 1: return family.owes;
            case 2: return family.purse.oldestDay();
            case 3: return family.halfHoursSat;
            case 4: return family.timesSatFor;
            case 5: return family.purse.notesOfOldestDay();
            default: return BAD;
        }
    }

    // ---- an evening

    public int ask(int f, int from, int to) {
        return addVisit(asked, f, from, to);
    }

    public int offer(int f, int from, int to) {
        return addVisit(offered, f, from, to);
    }

    public int price(int ask) {
        return asked.has(ask) ? priceOf(ask) : BAD;
    }

    public int fits(int ask, int offer) {
        if (!asked.has(ask) || !offered.has(offer)) {
            return BAD;
        }
        return areFitting(ask, offer, lawbook.lawOf(today, DEBT)) ? 1 : 0;
    }

    public int met() {
        return mostPairs(lawbook.lawOf(today, DEBT));
    }

    public int sitter(int ask) {
        if (!asked.has(ask)) {
            return BAD;
        }
        findTheMatch();
        return matcher.offerOf(ask);
    }

    public int why(int what) {
        if (what != 0 && what != 1) {
            return BAD;
        }
        findTheMatch();
        matcher.reach();
        return what == 0 ? matcher.asksNotReached() : matcher.reachedOffers;
    }

    public int would(int n) {
        return n < 0 || n > MOST_WOULD_DEBT ? BAD : mostPairs(n);
    }

    public int broken(int ask) {
        if (!asked.has(ask)) {
            return BAD;
        }
        findTheMatch();
        int offer = matcher.offerOf(ask);
        int paid = 0;
        if (offered.has(offer)) {
            paid = lawbook.lawOf(today, LATE);
            pay(familyAt(asked.familyOf(ask)), familyAt(offered.familyOf(offer)), paid);
        }
        asked.remove(ask);
        return paid;
    }

    public int evening() {
        findTheMatch();
        int held = 0;
        for (int ask = 0; ask < asked.size; ask++) {
            if (hold(ask, matcher.offerOf(ask))) {
                held++;
            }
        }
        asked.size = 0;
        offered.size = 0;
        return held;
    }

    // ---- sheets

    public int sheet(int k, int lane, int n) {
        if (!isSheet(k) || !isLane(lane) || n > MOST_CELLS) {
            return BAD;
        }
        if (n < 0) {
            return FAULT_ANSWER - SIZE_FAULT;
        }
        sheets[k] = new Row(lane, n);
        return 1;
    }

    public int lay(int k, int i, int v) {
        if (!isSheet(k)) {
            return BAD;
        }
        Row row = sheets[k];
        if (row == null) {
            return FAULT_ANSWER - NULL_FAULT;
        }
        if (!row.has(i)) {
            return FAULT_ANSWER - INDEX_FAULT;
        }
        row.write(i, v);
        return 1;
    }

    public int offers(int k, int lane, int c, int n) {
        if (!isSheet(k) || !isLane(lane) || n < 0 || n > MOST_VISITS) {
            return BAD;
        }
        Row row = sheets[k];
        if (row == null) {
            return FAULT_ANSWER - NULL_FAULT;
        }
        if (row.lane != lane) {
            return FAULT_ANSWER - CAST_FAULT;
        }
        int before = offered.size;
        for (int i = 0; i < n; i++) {
            int answer = offerFrom(row, c + i * CELLS_OF_OFFER);
            if (answer < 0) {
                offered.size = before;
                return answer;
            }
        }
        return n;
    }

    public int count(int what) {
        switch (what) {
            case 0: return familiesHere();
            case 1: return lawbook.size;
            case 2: return today;
            case 3: return asked.size;
            case 4: return offered.size;
            case 5: return sumTold(0);
            case 6: return sumTold(1);
            case 7: return notesCame;
            case 8: return notesExpired;
            case 9: return notesGivenUp;
            default: return BAD;
        }
    }

    // ---- what the calls share

    /** Null for a family that never came, and for one that has left. */
    private Family familyAt(int f) {
        return f < 0 || f >= familiesCame || f >= families.length ? null : families[f];
    }

    private void expireNotes() {
        int expire = lawbook.lawOf(today, EXPIRE);
        if (expire == NONE) {
            return;
        }
        for (Family family : families) {
            if (family != null) {
                notesExpired += family.purse.dropBefore(today - expire);
            }
        }
    }

    private int familiesHere() {
        int here = 0;
        for (Family family : families) {
            if (family != null) {
                here++;
            }
        }
        return here;
    }

    private int sumTold(int what) {
        int sum = 0;
        for (int f = 0; f < familiesCame; f++) {
            if (familyAt(f) != null) {
                sum += told(f, what);
            }
        }
        return sum;
    }

    private int addVisit(Visits visits, int f, int from, int to) {
        if (familyAt(f) == null || from < 0 || to > HALF_HOURS || from >= to) {
            return BAD;
        }
        return visits.add(f, from, to) ? visits.size - 1 : FULL;
    }

    private int priceOf(int ask) {
        int from = asked.fromOf(ask);
        int to = asked.toOf(ask);
        int twiceFrom = lawbook.lawOf(today, DOUBLE);
        int twice = twiceFrom == NONE ? 0 : Math.max(0, to - Math.max(from, twiceFrom));
        return to - from + twice;
    }

    private boolean areFitting(int ask, int offer, int debt) {
        int f = asked.familyOf(ask);
        int g = offered.familyOf(offer);
        Family asking = familyAt(f);
        Family offering = familyAt(g);
        if (asking == null || offering == null || f == g) {
            return false;
        }
        if (asking.doesBar(g) || offering.doesBar(f)) {
            return false;
        }
        boolean covered = offered.fromOf(offer) <= asked.fromOf(ask)
                && asked.toOf(ask) <= offered.toOf(offer);
        return covered && asking.wouldOwe(priceOf(ask)) <= debt;
    }

    private void lookForFits(int debt) {
        matcher.begin(asked.size, offered.size);
        for (int ask = 0; ask < asked.size; ask++) {
            for (int offer = 0; offer < offered.size; offer++) {
                if (areFitting(ask, offer, debt)) {
                    matcher.addFit(ask, offer);
                }
            }
        }
    }

    private int mostPairs(int debt) {
        lookForFits(debt);
        return matcher.mostPairsOfAll();
    }

    private void findTheMatch() {
        lookForFits(lawbook.lawOf(today, DEBT));
        matcher.match();
    }

    /** Answers whether it could be held. */
    private boolean hold(int ask, int offer) {
        if (!offered.has(offer)) {
            return false;
        }
        Family asking = familyAt(asked.familyOf(ask));
        Family sitting = familyAt(offered.familyOf(offer));
        int cost = priceOf(ask);
        // Earlier asks of this evening may have taken what it had.
        if (asking == null || sitting == null || asking.wouldOwe(cost) > lawbook.lawOf(today, DEBT)) {
            return false;
        }
        pay(asking, sitting, cost);
        sitting.halfHoursSat += cost;
        asking.timesSatFor++;
        return true;
    }

    private void pay(Family payer, Family payee, int amount) {
        if (payer == null || payee == null) {
            return;
        }
        int lacking = amount - payer.purse.moveOldest(amount, payee.purse);
        payer.owes += lacking;
        payee.purse.put(today, lacking);
        notesCame += lacking;
        // Only when all of them came, so that the newest of the whole pay go first.
        notesGivenUp += payee.settle();
    }

    private static boolean isSheet(int k) {
        return k >= 0 && k < SHEETS;
    }

    private static boolean isLane(int lane) {
        return lane == BYTES || lane == INTS;
    }

    private int offerFrom(Row row, int c) {
        if (c < 0 || c > row.cells.length - CELLS_OF_OFFER) {
            return FAULT_ANSWER - INDEX_FAULT;
        }
        int answer = offer(row.at(c), row.at(c + 1), row.at(c + 2));
        return answer < 0 ? REFUSED_ANSWER + answer : answer;
    }

    /** The bytes of a text that is not voted yet. */
    private static final class Tape {
        private static final int MOST = 200;
        private static final int BYTES_OF_LONG = 8;

        private final byte[] bytes = new byte[MOST];
        private int length;

        private boolean append(long v) {
            if (length > MOST - BYTES_OF_LONG) {
                return false;
            }
            for (int i = BYTES_OF_LONG - 1; i >= 0; i--) {
                bytes[length] = (byte) (v >>> (8 * i));
                length++;
            }
            return true;
        }

        private int at(int place) {
            return place < 0 || place >= length ? NONE : bytes[place];
        }

        private boolean isLetter(int place) {
            int b = at(place);
            return b >= 'a' && b <= 'z';
        }

        private boolean isFigure(int place) {
            int b = at(place);
            return b >= '0' && b <= '9';
        }

        private boolean spells(String word, int from, int to) {
            if (word.length() != to - from) {
                return false;
            }
            for (int i = 0; i < word.length(); i++) {
                if (at(from + i) != word.charAt(i)) {
                    return false;
                }
            }
            return true;
        }
    }

    /** Reads a tape as a text: what its laws tell, or the first fault met. */
    private static final class Reader {
        private static final int UNTOLD = -1;
        private static final int END = 0, NAME = 1, NUMBER = 2, SEMICOLON = 3;
        private static final int NO_TOKEN = 1, MISPLACED = 2, OUT_OF_BOUNDS = 3, TOLD_ALREADY = 4;
        private static final int MOST_FIGURES = 4;
        private static final int[] LEAST = {0, 0, 1, 0, 0};
        private static final int[] MOST = {200, 47, 400, 50, 100};

        private final int[] laws = new int[LAW_KINDS];
        private int found;
        private int place;
        private int kind;
        private int value;
        private int start;
        private int next;

        private void read(Tape tape) {
            Arrays.fill(laws, UNTOLD);
            found = 0;
            place = 0;
            next = 0;
            scan(tape);
            // One round more than there are laws: it can only meet a fault.
            for (int told = 0; told <= LAW_KINDS; told++) {
                boolean atEnd = told > 0 && kind == END;
                if (found != 0 || atEnd) {
                    return;
                }
                readLaw(tape);
            }
        }

        private void readLaw(Tape tape) {
            if (!canStand(NAME)) {
                return;
            }
            int law = value;
            // A name that was taken is a law's; looked at once more, since it is an index from here on.
            if (law < 0 || law >= LAW_KINDS) {
                fail(NO_TOKEN);
                return;
            }
            if (laws[law] != UNTOLD) {
                fail(TOLD_ALREADY);
                return;
            }
            scan(tape);
            if (!canStand(NUMBER)) {
                return;
            }
            if (value < LEAST[law] || value > MOST[law]) {
                fail(OUT_OF_BOUNDS);
                return;
            }
            laws[law] = value;
            scan(tape);
            if (canStand(SEMICOLON)) {
                scan(tape);
            }
        }

        private boolean canStand(int wanted) {
            if (found == 0 && kind != wanted) {
                fail(MISPLACED);
            }
            return found == 0;
        }

        private void fail(int which) {
            found = which;
            place = start;
        }

        private void scan(Tape tape) {
            skipBlanks(tape);
            start = next;
            if (start >= tape.length) {
                kind = END;
            } else if (tape.isLetter(start)) {
                scanName(tape);
            } else if (tape.isFigure(start)) {
                scanNumber(tape);
            } else if (tape.at(start) == ';') {
                kind = SEMICOLON;
                next = start + 1;
            } else {
                fail(NO_TOKEN);
            }
        }

        private void skipBlanks(Tape tape) {
            while (next < tape.length && tape.at(next) == ' ') {
                next++;
            }
        }

        private void scanName(Tape tape) {
            while (next < tape.length && tape.isLetter(next)) {
                next++;
            }
            kind = NAME;
            value = NONE;
            for (int law = 0; law < LAW_KINDS; law++) {
                if (tape.spells(nameOf(law), start, next)) {
                    value = law;
                }
            }
            if (value == NONE) {
                fail(NO_TOKEN);
            }
        }

        private static String nameOf(int law) {
            switch (law) {
                case ISSUE: return "issue";
                case DOUBLE: return "double";
                case EXPIRE: return "expire";
                case LATE: return "late";
                default: return "debt";
            }
        }

        private void scanNumber(Tape tape) {
            kind = NUMBER;
            value = 0;
            while (next < tape.length && tape.isFigure(next)) {
                if (next - start < MOST_FIGURES) {
                    value = value * 10 + tape.at(next) - '0';
                }
                next++;
            }
            if (next - start > MOST_FIGURES) {
                fail(NO_TOKEN);
            }
        }
    }

    /** The texts as they were voted, and what of them counts on a day. */
    private static final class Lawbook {
        private static final int MOST_TEXTS = 6;
        private static final int[] WITHOUT = {0, NONE, NONE, 0, 0};

        private final int[] days = new int[MOST_TEXTS];
        private final int[][] laws = new int[MOST_TEXTS][LAW_KINDS];
        private int size;

        private boolean isFull() {
            return size >= MOST_TEXTS;
        }

        private int add(int day, int[] told) {
            if (isFull()) {
                return FULL;
            }
            days[size] = day;
            for (int law = 0; law < LAW_KINDS && law < told.length; law++) {
                laws[size][law] = told[law];
            }
            size++;
            return size - 1;
        }

        private int latestDay() {
            return size > 0 ? days[size - 1] : NONE;
        }

        private int textOf(int day) {
            int best = NONE;
            for (int text = 0; text < size; text++) {
                if (days[text] <= day && (best == NONE || days[text] >= days[best])) {
                    best = text;
                }
            }
            return best;
        }

        private int lawOf(int day, int law) {
            if (law < 0 || law >= LAW_KINDS) {
                return BAD;
            }
            int text = textOf(day);
            boolean isTold = text != NONE && laws[text][law] != Reader.UNTOLD;
            return isTold ? laws[text][law] : WITHOUT[law];
        }
    }

    /** Notes in heaps of one day each, the oldest heap first. */
    private static final class Purse {
        private static final int FIRST_ROOM = 4;

        private int[] days = new int[FIRST_ROOM];
        private int[] notes = new int[FIRST_ROOM];
        private int heaps;
        private int total;

        private int oldestDay() {
            return heaps > 0 ? days[0] : NONE;
        }

        private int notesOfOldestDay() {
            return heaps > 0 ? notes[0] : 0;
        }

        private void put(int day, int amount) {
            if (amount <= 0) {
                return;
            }
            total += amount;
            int at = heaps;
            while (at > 0 && days[at - 1] > day) {
                at--;
            }
            if (at > 0 && days[at - 1] == day) {
                notes[at - 1] += amount;
            } else {
                insertHeap(at, day, amount);
            }
        }

        private void insertHeap(int at, int day, int amount) {
            if (heaps >= days.length) {
                days = Arrays.copyOf(days, heaps * 2);
                notes = Arrays.copyOf(notes, heaps * 2);
            }
            for (int i = heaps; i > at; i--) {
                days[i] = days[i - 1];
                notes[i] = notes[i - 1];
            }
            days[at] = day;
            notes[at] = amount;
            heaps++;
        }

        /** Answers how many there were to move, at most the amount. */
        private int moveOldest(int amount, Purse to) {
            int moving = Math.max(0, Math.min(amount, total));
            int left = moving;
            int emptied = 0;
            for (int i = 0; i < heaps && left > 0; i++) {
                int some = Math.min(left, notes[i]);
                to.put(days[i], some);
                notes[i] -= some;
                left -= some;
                if (notes[i] == 0) {
                    emptied++;
                }
            }
            total -= moving;
            removeOldestHeaps(emptied);
            return moving;
        }

        private void dropNewest(int amount) {
            int left = amount;
            for (int i = heaps - 1; i >= 0 && left > 0; i--) {
                int some = Math.min(left, notes[i]);
                notes[i] -= some;
                left -= some;
                total -= some;
                if (notes[i] == 0) {
                    heaps = i;
                }
            }
        }

        /** Answers how many were older than the day. */
        private int dropBefore(int day) {
            int gone = 0;
            int emptied = 0;
            for (int i = 0; i < heaps && days[i] < day; i++) {
                gone += notes[i];
                emptied++;
            }
            total -= gone;
            removeOldestHeaps(emptied);
            return gone;
        }

        private void removeOldestHeaps(int emptied) {
            for (int i = emptied; i < heaps; i++) {
                days[i - emptied] = days[i];
                notes[i - emptied] = notes[i];
            }
            heaps -= emptied;
        }
    }

    /** A family that is in the circle. */
    private static final class Family {
        private final Purse purse = new Purse();
        private int owes;
        private int barred;
        private int halfHoursSat;
        private int timesSatFor;

        private boolean doesBar(int other) {
            return (barred >> other & 1) != 0;
        }

        private void setBar(int other, boolean on) {
            barred = on ? barred | 1 << other : barred & ~(1 << other);
        }

        private int wouldOwe(int amount) {
            return owes + Math.max(0, amount - purse.total);
        }

        /** Gives up notes for what it owes; answers how many. */
        private int settle() {
            int settled = Math.min(owes, purse.total);
            purse.dropNewest(settled);
            owes -= settled;
            return settled;
        }
    }

    /** The asks, or the offers, of an evening. */
    private static final class Visits {
        private final int[] families = new int[MOST_VISITS];
        private final int[] froms = new int[MOST_VISITS];
        private final int[] tos = new int[MOST_VISITS];
        private int size;

        private boolean has(int i) {
            return i >= 0 && i < size;
        }

        private int familyOf(int i) {
            return has(i) ? families[i] : NONE;
        }

        private int fromOf(int i) {
            return has(i) ? froms[i] : NONE;
        }

        private int toOf(int i) {
            return has(i) ? tos[i] : NONE;
        }

        private boolean add(int family, int from, int to) {
            if (size >= MOST_VISITS) {
                return false;
            }
            families[size] = family;
            froms[size] = from;
            tos[size] = to;
            size++;
            return true;
        }

        private void remove(int gone) {
            if (!has(gone)) {
                return;
            }
            for (int i = gone + 1; i < size; i++) {
                families[i - 1] = families[i];
                froms[i - 1] = froms[i];
                tos[i - 1] = tos[i];
            }
            size--;
        }

        private boolean areOf(int family) {
            for (int i = 0; i < size; i++) {
                if (families[i] == family) {
                    return true;
                }
            }
            return false;
        }
    }

    /** Finds the match, and why no more; sets of asks and of offers are bits of an int. */
    private static final class Matcher {
        private final int[] fitting = new int[MOST_VISITS];
        private final int[] given = new int[MOST_VISITS];
        private final int[] takers = new int[MOST_VISITS];
        private int askCount;
        private int offerCount;
        private int tried;
        private int reachedAsks;
        private int reachedOffers;

        private void begin(int asks, int offers) {
            askCount = Math.min(asks, MOST_VISITS);
            offerCount = Math.min(offers, MOST_VISITS);
            Arrays.fill(fitting, 0);
            Arrays.fill(given, NONE);
        }

        private void addFit(int ask, int offer) {
            if (ask >= 0 && ask < askCount && offer >= 0 && offer < offerCount) {
                fitting[ask] |= 1 << offer;
            }
        }

        private int offerOf(int ask) {
            return ask >= 0 && ask < askCount ? given[ask] : NONE;
        }

        private int mostPairsOfAll() {
            return mostPairsFrom(0, allOffers());
        }

        private int allOffers() {
            return (1 << offerCount) - 1;
        }

        /** The most pairs of the asks from one on with the offers that are free. */
        private int mostPairsFrom(int firstAsk, int free) {
            Arrays.fill(takers, NONE);
            int pairs = 0;
            for (int ask = firstAsk; ask < askCount; ask++) {
                tried = 0;
                if (takeOne(ask, free, 0)) {
                    pairs++;
                }
            }
            return pairs;
        }

        /** Answers whether the ask took an offer, if need be from another ask that took a further one. */
        private boolean takeOne(int ask, int free, int depth) {
            if (ask < 0 || ask >= askCount || depth > MOST_VISITS) {
                return false;
            }
            for (int offer = 0; offer < offerCount; offer++) {
                int bit = 1 << offer;
                if ((fitting[ask] & free & ~tried & bit) == 0) {
                    continue;
                }
                tried |= bit;
                if (takers[offer] == NONE || takeOne(takers[offer], free, depth + 1)) {
                    takers[offer] = ask;
                    return true;
                }
            }
            return false;
        }

        /** Ask by ask the least offer that leaves the later asks as many pairs as there can be. */
        private void match() {
            int free = allOffers();
            int left = mostPairsFrom(0, free);
            for (int ask = 0; ask < askCount && left > 0; ask++) {
                given[ask] = leastOffer(ask, free, left);
                if (given[ask] != NONE) {
                    free &= ~(1 << given[ask]);
                    left--;
                }
            }
        }

        private int leastOffer(int ask, int free, int left) {
            for (int offer = 0; offer < offerCount; offer++) {
                int bit = 1 << offer;
                boolean isOpen = (fitting[ask] & free & bit) != 0;
                if (isOpen && mostPairsFrom(ask + 1, free & ~bit) == left - 1) {
                    return offer;
                }
            }
            return NONE;
        }

        private void reach() {
            reachedAsks = 0;
            reachedOffers = 0;
            for (int ask = 0; ask < askCount; ask++) {
                if (given[ask] == NONE) {
                    reachedAsks |= 1 << ask;
                }
            }
            // A round that reaches no further ask changes nothing, so this many are enough.
            for (int round = 0; round <= askCount; round++) {
                reachFurther();
            }
        }

        private void reachFurther() {
            for (int ask = 0; ask < askCount; ask++) {
                if ((reachedAsks >> ask & 1) != 0) {
                    reachedOffers |= fitting[ask];
                }
            }
            for (int ask = 0; ask < askCount; ask++) {
                if (given[ask] != NONE && (reachedOffers >> given[ask] & 1) != 0) {
                    reachedAsks |= 1 << ask;
                }
            }
        }

        private int asksNotReached() {
            return ~reachedAsks & (1 << askCount) - 1;
        }
    }

    /** The cells of a sheet. */
    private static final class Row {
        private final int lane;
        private final int[] cells;

        private Row(int lane, int n) {
            this.lane = lane;
            cells = new int[Math.max(0, n)];
        }

        private boolean has(int i) {
            return i >= 0 && i < cells.length;
        }

        private int at(int i) {
            return has(i) ? cells[i] : 0;
        }

        private void write(int i, int v) {
            if (has(i)) {
                cells[i] = lane == BYTES ? (byte) v : v;
            }
        }
    }
}
