import java.util.Arrays;

/** The coast on which a bow is repaid lower: see README.md and the document's promises 1 to 33. */
public final class LowerBows {
    public static final int NONE = -1, BAD = -2, NOT = -3, FULL = -4;

    private static final int MOST_PEOPLE = 8, HOURS = 12, LAST_HOUR = 11, STREETS = 8, DEEPEST = 99;
    private static final int PEOPLE_BYTES = 39, WALKS_BYTES = 71;
    private static final int MOST_OLD = 12, MOST_UMBRELLAS = 8, MOST_SEEN = 8;
    private static final int PROUD = 1, CLERGY = 2;
    private static final int SHEETS = 4, FORMS = 3, MOST_ITEMS = 60, OLD_ITEMS = 3;
    private static final int NULL = 1, INDEX = 2, CAST = 3, STORE = 4, SIZE = 5;
    private static final int SIXTEENTHS = 16, MOST_MEETINGS = 99;
    private static final int LEAST_INT = -2147483648;
    private static final long LEAST_LONG = -9223372036854775808L;

    private final Text peopleText = new Text(PEOPLE_BYTES);
    private final Text walksText = new Text(WALKS_BYTES);
    private final People people = new People();
    private final Walks walks = new Walks();
    private final Ledger olds = new Ledger(MOST_OLD);
    private final Ledger umbrellas = new Ledger(MOST_UMBRELLAS);
    private final Ledger sights = new Ledger(MOST_SEEN);
    private final Coast coast = new Coast(people, walks, olds, umbrellas);
    private final ShadePlan shadePlan = new ShadePlan(coast);
    private final StrollPlan strollPlan = new StrollPlan(coast);
    private final Clues clues = new Clues(coast, sights);
    private final Chances chances = new Chances(coast);
    private final Sheet[] sheets = new Sheet[SHEETS];
    private int latestFinding;

    public LowerBows() {
        for (int s = 0; s < SHEETS; s++) {
            sheets[s] = new Sheet();
        }
    }

    // ---- people, walks, umbrellas

    public int type(int text, int b) {
        if (!isText(text) || !within(b, 0, 255)) {
            return BAD;
        }
        Text t = textOf(text);
        if (t.size >= t.bytes.length) {
            return FULL;
        }
        t.append(b);
        readAgain(text);
        return t.size;
    }

    public int wipe(int text) {
        if (!isText(text)) {
            return BAD;
        }
        Text t = textOf(text);
        int had = t.size;
        t.size = 0;
        readAgain(text);
        return had;
    }

    public int undo(int text) {
        if (!isText(text)) {
            return BAD;
        }
        Text t = textOf(text);
        if (t.size == 0) {
            return NOT;
        }
        t.size--;
        readAgain(text);
        return t.size;
    }

    public int fault(int text) {
        if (!isText(text)) {
            return BAD;
        }
        return text == 0 ? people.faultAt : walks.faultAt;
    }

    public int person(int person, int what) {
        if (!isPerson(person)) {
            return BAD;
        }
        switch (what) {
            case 0: return people.kind[person];
            case 1: return people.can[person];
            case 2: return people.lower[person];
            default: return BAD;
        }
    }

    public int street(int hour, int person) {
        if (!isHour(hour) || !isPerson(person)) {
            return BAD;
        }
        return walks.streets[hour * MOST_PEOPLE + person];
    }

    public int old(int who, int to, int low) {
        if (!mayBeOld(who, to, low)) {
            return BAD;
        }
        return olds.enter(who, to, low);
    }

    public int umbrella(int hour, int person) {
        if (!isHour(hour) || !within(person, 0, MOST_PEOPLE - 1)) {
            return BAD;
        }
        return umbrellas.enter(hour, person, 0);
    }

    public int back(int what) {
        if (!within(what, 0, 1)) {
            return BAD;
        }
        Ledger ledger = what == 0 ? olds : umbrellas;
        if (ledger.size == 0) {
            return NOT;
        }
        ledger.size--;
        return ledger.size;
    }

    public int read(int s) {
        if (!isSheet(s)) {
            return BAD;
        }
        Sheet sheet = sheets[s];
        if (sheet.lost) {
            return found(NULL);
        }
        int taken = 0;
        for (int at = 0; at + OLD_ITEMS <= sheet.size; at += OLD_ITEMS) {
            int who = sheet.items[at], to = sheet.items[at + 1], low = sheet.items[at + 2];
            if (!mayBeOld(who, to, low) || olds.enter(who, to, low) == FULL) {
                break;
            }
            taken++;
        }
        return taken;
    }

    // ---- hours

    public int low(int hour, int person) {
        if (!isHour(hour) || !isPerson(person)) {
            return BAD;
        }
        coast.walkAsTold(hour);
        return coast.lowest[person];
    }

    public int behind(int hour, int what) {
        if (!isHour(hour) || !within(what, 0, 1)) {
            return BAD;
        }
        coast.walkAsTold(hour);
        return what == 0 ? coast.gone : coast.bows;
    }

    public int owes(int hour, int person, int to) {
        if (!isHour(hour) || !isPerson(person) || !isPerson(to) || person == to) {
            return BAD;
        }
        coast.walkAsTold(hour);
        return coast.debt(person, to);
    }

    public int first(int what) {
        if (!within(what, 0, 1)) {
            return BAD;
        }
        coast.walkAsTold(LAST_HOUR);
        return what == 0 ? coast.firstHour : coast.firstWho;
    }

    public int ends(int a, int b, int what) {
        if (!isPerson(a) || !isPerson(b) || a == b || !within(what, 0, 1)) {
            return BAD;
        }
        coast.walkAsTold(LAST_HOUR);
        if (!coast.mayMeet(a, b)) {
            return NONE;
        }
        int bowsBefore = coast.bows;
        // each bow is lower than the one ahead, so the hundredth meeting is beyond anybody
        for (int i = 0; i <= DEEPEST && coast.mayMeet(a, b); i++) {
            coast.meet(a, b);
        }
        if (what == 0) {
            return coast.bows - bowsBefore;
        }
        return coast.isGone(a) ? 0 : 1;
    }

    public int rings(int hour, int what) {
        if (!isHour(hour) || !within(what, 0, 1)) {
            return BAD;
        }
        coast.walkAsTold(hour);
        int rings = 0, least = NONE;
        for (int a = 0; a < people.size; a++) {
            for (int b = a + 1; b < people.size; b++) {
                for (int c = b + 1; c < people.size; c++) {
                    if (coast.isRing(a, b, c)) {
                        least = rings == 0 ? 64 * a + 8 * b + c : least;
                        rings++;
                    }
                }
            }
        }
        return what == 0 ? rings : least;
    }

    // ---- plans

    public int shade(int i) {
        if (!within(i, NONE, 1)) {
            return BAD;
        }
        shadePlan.find();
        return i == NONE ? shadePlan.size : shadePlan.numbers[i];
    }

    public int stroll(int person, int errand, int i) {
        if (!isPerson(person) || !within(errand, 0, STREETS - 1) || !within(i, NONE, StrollPlan.LENGTH - 1)) {
            return BAD;
        }
        strollPlan.find(person, errand);
        return i == NONE ? strollPlan.gone : strollPlan.streetIn(i);
    }

    // ---- seen, chance, seasons

    public int seen(int hour, int person, int low) {
        if (!isHour(hour) || !within(person, 0, MOST_PEOPLE - 1) || !within(low, 0, DEEPEST)) {
            return BAD;
        }
        return sights.enter(hour, person, low);
    }

    public int forget() {
        int had = sights.size;
        sights.size = 0;
        return had;
    }

    public int never(int what) {
        if (!within(what, 0, 1)) {
            return BAD;
        }
        return what == 0 ? clues.oldBowsThatNeverWere() : clues.umbrellasLeft();
    }

    public int pass() {
        return clues.nextToPass();
    }

    public long forgets(int c, int hour, int person, int what) {
        if (!within(c, 0, SIXTEENTHS) || !isHour(hour) || !isPerson(person) || !within(what, 0, 1)) {
            return LEAST_LONG - BAD;
        }
        chances.weigh(c, hour);
        return what == 0 ? chances.above(person) : chances.below(person);
    }

    public int season(int seed, int n, int person) {
        if (!within(n, 1, MOST_MEETINGS) || (person != NONE && !isPerson(person))) {
            return BAD;
        }
        coast.walkAsTold(LAST_HOUR);
        coast.meetByLot(seed, n);
        return person == NONE ? Integer.bitCount(coast.gone) : coast.lowest[person];
    }

    // ---- sheets

    public int sheet(int s, int form, int n) {
        if (!isSheet(s) || !isForm(form) || n > MOST_ITEMS) {
            return BAD;
        }
        if (n < 0) {
            return found(SIZE);
        }
        sheets[s].begin(form, n);
        return n;
    }

    public int lose(int s) {
        if (!isSheet(s)) {
            return BAD;
        }
        Sheet sheet = sheets[s];
        if (sheet.lost) {
            return found(NULL);
        }
        sheet.lost = true;
        return sheet.size;
    }

    public int lay(int s, int form, int i, int v) {
        if (!isSheet(s) || !isForm(form)) {
            return BAD;
        }
        int finding = sheets[s].findingAt(form, i);
        if (finding != 0) {
            return found(finding);
        }
        sheets[s].put(i, v);
        return 1;
    }

    public int get(int s, int form, int i) {
        if (!isSheet(s) || !isForm(form)) {
            return LEAST_INT;
        }
        int finding = sheets[s].findingAt(form, i);
        if (finding != 0) {
            found(finding);
            return LEAST_INT;
        }
        return sheets[s].items[i];
    }

    public int copy(int s, int i, int t, int j, int n) {
        if (!isSheet(s) || !isSheet(t)) {
            return BAD;
        }
        Sheet from = sheets[s], to = sheets[t];
        if (from.lost || to.lost) {
            return found(NULL);
        }
        if (from.form != to.form) {
            return found(STORE);
        }
        if (!from.hasItems(i, n) || !to.hasItems(j, n)) {
            return found(INDEX);
        }
        System.arraycopy(from.items, i, to.items, j, n);
        return 1;
    }

    public int write(int hour, int s) {
        if (!isHour(hour) || !isSheet(s)) {
            return BAD;
        }
        Sheet sheet = sheets[s];
        if (sheet.lost) {
            return found(NULL);
        }
        coast.walkAsTold(hour);
        int written = Math.min(sheet.size, people.size);
        for (int i = 0; i < written; i++) {
            sheet.put(i, coast.lowest[i]);
        }
        return written;
    }

    public int count(int what) {
        switch (what) {
            case 0: return people.size;
            case 1: return walks.size;
            case 2: return peopleText.size;
            case 3: return walksText.size;
            case 4: return olds.size;
            case 5: return umbrellas.size;
            case 6: return behind(LAST_HOUR, 1);
            case 7: return sights.size;
            case 8: return latestFinding;
            default: return BAD;
        }
    }

    public long digest() {
        long h = 17;
        for (int what = 0; what <= 7; what++) {
            h = 31 * h + count(what);
        }
        h = 31 * h + fault(0);
        h = 31 * h + fault(1);
        chances.weigh(5, LAST_HOUR);
        shadePlan.find();
        for (int person = 0; person < people.size; person++) {
            h = digestOfPerson(h, person);
        }
        h = digestOfHour(h, 0);
        h = digestOfHour(h, 3);
        h = digestOfHour(h, LAST_HOUR);
        return digestOfPlans(h);
    }

    /** The chances have been weighed ahead, once for all people. */
    private long digestOfPerson(long before, int person) {
        long h = before;
        for (int what = 0; what <= 2; what++) {
            h = 31 * h + person(person, what);
        }
        h = 31 * h + low(3, person);
        h = 31 * h + low(LAST_HOUR, person);
        h = 31 * h + owes(5, 0, person);
        h = 31 * h + ends(person, 1, 0);
        h = 31 * h + ends(person, 1, 1);
        strollPlan.find(person, 2);
        h = 31 * h + strollPlan.gone;
        h = 31 * h + strollPlan.streetIn(0);
        h = 31 * h + chances.above(person);
        h = 31 * h + chances.below(person);
        return 31 * h + season(7, 30, person);
    }

    private long digestOfHour(long before, int hour) {
        long h = 31 * before + street(hour, 0);
        h = 31 * h + behind(hour, 0);
        h = 31 * h + behind(hour, 1);
        h = 31 * h + rings(hour, 0);
        return 31 * h + rings(hour, 1);
    }

    /** The shade has been found ahead. */
    private long digestOfPlans(long before) {
        long h = 31 * before + first(0);
        h = 31 * h + first(1);
        h = 31 * h + shadePlan.size;
        h = 31 * h + shadePlan.numbers[0];
        h = 31 * h + never(0);
        h = 31 * h + never(1);
        h = 31 * h + clues.nextToPass();
        return 31 * h + season(7, 30, NONE);
    }

    private static boolean within(int v, int least, int most) {
        return v >= least && v <= most;
    }

    private static boolean isText(int text) {
        return within(text, 0, 1);
    }

    private static boolean isHour(int hour) {
        return within(hour, 0, LAST_HOUR);
    }

    private static boolean isSheet(int s) {
        return within(s, 0, SHEETS - 1);
    }

    private static boolean isForm(int form) {
        return within(form, 0, FORMS - 1);
    }

    private static boolean mayBeOld(int who, int to, int low) {
        return within(who, 0, MOST_PEOPLE - 1) && within(to, 0, MOST_PEOPLE - 1)
            && who != to && within(low, 1, DEEPEST);
    }

    private boolean isPerson(int person) {
        return within(person, 0, people.size - 1);
    }

    private Text textOf(int text) {
        return text == 0 ? peopleText : walksText;
    }

    private void readAgain(int text) {
        if (text == 0) {
            people.take(peopleText);
        } else {
            walks.take(walksText);
        }
    }

    private int found(int finding) {
        latestFinding = finding;
        return -10 - finding;
    }

    /** A text's bytes, with room for as many as it may ever have. */
    private static final class Text {
        final int[] bytes;
        int size;

        Text(int most) {
            bytes = new int[Math.max(most, 0)];
        }

        void append(int b) {
            if (size < bytes.length) {
                bytes[size] = b;
                size++;
            }
        }
    }

    /** The people that text 0 tells of; nobody if it has a fault. */
    private static final class People {
        private static final int BYTES_EACH = 5, LETTER = 0, LOWER = 3, BREAK = 4;

        final int[] kind = new int[MOST_PEOPLE];
        final int[] can = new int[MOST_PEOPLE];
        final int[] lower = new int[MOST_PEOPLE];
        /** By how much more than the bow ahead it bows. */
        final int[] step = new int[MOST_PEOPLE];
        int size;
        int clergyBits;
        int faultAt = NONE;

        void take(Text text) {
            faultAt = faultOf(text);
            size = 0;
            clergyBits = 0;
            int end = faultAt == NONE ? text.size : 0;
            for (int at = 0; at + LOWER < end && size < MOST_PEOPLE; at += BYTES_EACH) {
                kind[size] = kindOf(text.bytes[at]);
                can[size] = 10 * (text.bytes[at + 1] - '0') + text.bytes[at + 2] - '0';
                lower[size] = text.bytes[at + LOWER] - '0';
                step[size] = kind[size] == PROUD ? lower[size] + 1 : lower[size];
                if (kind[size] == CLERGY) {
                    clergyBits |= 1 << size;
                }
                size++;
            }
        }

        private static int faultOf(Text text) {
            for (int at = 0; at < text.size; at++) {
                if (at >= BYTES_EACH * MOST_PEOPLE || !goesOn(at % BYTES_EACH, text.bytes[at])) {
                    return at;
                }
            }
            boolean ended = text.size == 0 || text.size % BYTES_EACH == BREAK;
            return ended ? NONE : text.size;
        }

        private static boolean goesOn(int place, int b) {
            switch (place) {
                case LETTER: return b == 'o' || b == 'p' || b == 'c';
                case LOWER: return within(b, '1', '9');
                case BREAK: return b == ';';
                default: return within(b, '0', '9');
            }
        }

        private static int kindOf(int letter) {
            if (letter == 'p') {
                return PROUD;
            }
            return letter == 'c' ? CLERGY : 0;
        }
    }

    /** The walks that text 1 tells of; all are at home if it has a fault. */
    private static final class Walks {
        /** At 8 times the hour and who: the street, NONE at home. */
        final int[] streets = new int[HOURS * MOST_PEOPLE];
        int size;
        int faultAt = NONE;

        Walks() {
            for (int i = 0; i < HOURS * MOST_PEOPLE; i++) {
                streets[i] = NONE;
            }
        }

        void take(Text text) {
            Arrays.fill(streets, NONE);
            faultAt = NONE;
            int walk = 0, hour = 0;
            for (int at = 0; at < text.size && faultAt == NONE; at++) {
                int b = text.bytes[at];
                if (b == ';' && walk < MOST_PEOPLE - 1) {
                    walk++;
                    hour = 0;
                } else if (within(b, 'a', 'h') && hour < HOURS) {
                    streets[hour * MOST_PEOPLE + walk] = b - 'a';
                    hour++;
                } else {
                    faultAt = at;
                }
            }
            size = text.size == 0 || faultAt != NONE ? 0 : walk + 1;
            if (faultAt != NONE) {
                Arrays.fill(streets, NONE);
            }
        }
    }

    /** Entries of up to three numbers: old bows (who, to, low), umbrellas (hour, who), seen (hour, who, low). */
    private static final class Ledger {
        final int[] one, two, three;
        int size;

        Ledger(int most) {
            int room = Math.max(most, 0);
            one = new int[room];
            two = new int[room];
            three = new int[room];
        }

        int enter(int a, int b, int c) {
            if (size >= one.length) {
                return FULL;
            }
            one[size] = a;
            two[size] = b;
            three[size] = c;
            size++;
            return size;
        }
    }

    /** The coast on trial: laid out as told or a little otherwise, then walked through hour by hour. */
    private static final class Coast {
        final People people;
        final Walks walks;
        final Ledger olds;
        final Ledger umbrellas;
        /** As in Walks, but here they may be tried otherwise. */
        final int[] streets = new int[HOURS * MOST_PEOPLE];
        /** For each hour who is not seen, as bits. */
        final int[] hidden = new int[HOURS];
        /** For a less than b, at 8 a and b: how low the next bow is to be, below 0 if it is b's. */
        final int[] dueAtFirst = new int[MOST_PEOPLE * MOST_PEOPLE];
        final int[] due = new int[MOST_PEOPLE * MOST_PEOPLE];
        final int[] lowest = new int[MOST_PEOPLE];
        int gone;
        int bows;
        int firstHour;
        int firstWho;

        Coast(People people, Walks walks, Ledger olds, Ledger umbrellas) {
            this.people = people;
            this.walks = walks;
            this.olds = olds;
            this.umbrellas = umbrellas;
        }

        void walkAsTold(int lastHour) {
            layOut(NONE, 0);
            begin();
            walkTo(lastHour);
        }

        /** As told, but for one old bow (NONE: with all) and some umbrellas (as bits). */
        void layOut(int oldLess, int umbrellasLess) {
            System.arraycopy(walks.streets, 0, streets, 0, streets.length);
            Arrays.fill(hidden, 0);
            for (int u = 0; u < umbrellas.size; u++) {
                if ((umbrellasLess >> u & 1) == 0) {
                    hidden[umbrellas.one[u]] |= 1 << umbrellas.two[u];
                }
            }
            expectFirstBows();
            for (int k = 0; k < olds.size; k++) {
                if (k != oldLess) {
                    expectAnswerTo(olds.one[k], olds.two[k], olds.three[k]);
                }
            }
        }

        private void expectFirstBows() {
            for (int a = 0; a < people.size; a++) {
                for (int b = a + 1; b < people.size; b++) {
                    boolean othersTurn = people.kind[a] == PROUD && people.kind[b] != PROUD;
                    dueAtFirst[a * MOST_PEOPLE + b] = othersTurn ? -1 : 1;
                }
            }
        }

        private void expectAnswerTo(int who, int to, int low) {
            int answer = low + people.step[to];
            if (who < to) {
                dueAtFirst[who * MOST_PEOPLE + to] = -answer;
            } else {
                dueAtFirst[to * MOST_PEOPLE + who] = answer;
            }
        }

        void begin() {
            System.arraycopy(dueAtFirst, 0, due, 0, due.length);
            Arrays.fill(lowest, 0);
            gone = 0;
            bows = 0;
            firstHour = NONE;
            firstWho = NONE;
        }

        void walkTo(int lastHour) {
            for (int hour = 0; hour <= lastHour && hour < HOURS; hour++) {
                walkThrough(hour);
            }
        }

        /** Walks from the beginning till somebody is gone: in which hour; NONE. */
        int walkTillOneIsGone() {
            begin();
            for (int hour = 0; hour < HOURS && gone == 0; hour++) {
                walkThrough(hour);
            }
            return firstHour;
        }

        void walkThrough(int hour) {
            int row = hour * MOST_PEOPLE;
            int unseen = hidden[hour] | people.clergyBits;
            for (int a = 0; a < people.size; a++) {
                int place = streets[row + a];
                for (int b = a + 1; place != NONE && b < people.size; b++) {
                    int away = unseen | gone;
                    if (streets[row + b] == place && (away >> a & 1) == 0 && (away >> b & 1) == 0) {
                        meet(a, b);
                    }
                }
            }
            if (gone != 0 && firstHour == NONE) {
                firstHour = hour;
            }
        }

        boolean mayMeet(int a, int b) {
            int away = people.clergyBits | gone;
            return a != b && (away >> a & 1) == 0 && (away >> b & 1) == 0;
        }

        void meet(int a, int b) {
            int least = Math.min(a, b), other = Math.max(a, b);
            int pair = least * MOST_PEOPLE + other;
            int bow = due[pair];
            int who = bow > 0 ? least : other;
            int low = Math.abs(bow);
            if (low > people.can[who]) {
                firstWho = gone == 0 ? who : firstWho;
                gone |= 1 << who;
            } else {
                due[pair] = bow > 0 ? -(low + people.step[other]) : low + people.step[least];
                lowest[who] = Math.max(lowest[who], low);
                bows++;
            }
        }

        int debt(int person, int to) {
            int clergy = people.clergyBits;
            if ((clergy >> person & 1) != 0 || (clergy >> to & 1) != 0) {
                return 0;
            }
            int bow = person < to ? due[person * MOST_PEOPLE + to] : -due[to * MOST_PEOPLE + person];
            return Math.max(bow, 0);
        }

        boolean isRing(int a, int b, int c) {
            boolean onward = debt(a, b) > 0 && debt(b, c) > 0 && debt(c, a) > 0;
            boolean backward = debt(b, a) > 0 && debt(c, b) > 0 && debt(a, c) > 0;
            return onward || backward;
        }

        boolean isGone(int person) {
            return (gone >> person & 1) != 0;
        }

        void meetByLot(int seed, int times) {
            if (people.size == 0) {
                return;
            }
            int state = seed;
            for (int i = 0; i < times; i++) {
                state = 1103515245 * state + 12345;
                int a = (state >>> 16) % people.size;
                state = 1103515245 * state + 12345;
                int b = (state >>> 16) % people.size;
                if (mayMeet(a, b)) {
                    meet(a, b);
                }
            }
        }
    }

    /** The fewest umbrellas more, two at most, by which nobody is gone. */
    private static final class ShadePlan {
        private final Coast coast;
        final int[] numbers = new int[2];
        int size;

        ShadePlan(Coast coast) {
            this.coast = coast;
        }

        void find() {
            numbers[0] = NONE;
            numbers[1] = NONE;
            coast.layOut(NONE, 0);
            int firstHour = coast.walkTillOneIsGone();
            if (firstHour == NONE) {
                size = 0;
            } else if (findOne(firstHour)) {
                size = 1;
            } else if (findTwo(firstHour)) {
                size = 2;
            } else {
                size = NONE;
            }
        }

        /** An umbrella behind the hour in which one is gone comes too late. */
        private boolean findOne(int lastHour) {
            numbers[0] = numberThatHelps(0, lastHour);
            return numbers[0] != NONE;
        }

        private boolean findTwo(int lastHour) {
            int end = MOST_PEOPLE * (lastHour + 1);
            for (int u = 0; u < end; u++) {
                if (isWorthHiding(u)) {
                    toggle(u);
                    numbers[1] = numberThatHelps(u + 1, coast.walkTillOneIsGone());
                    toggle(u);
                    if (numbers[1] != NONE) {
                        numbers[0] = u;
                        return true;
                    }
                }
            }
            return false;
        }

        private int numberThatHelps(int from, int lastHour) {
            int end = MOST_PEOPLE * (lastHour + 1);
            for (int u = from; u < end; u++) {
                if (isWorthHiding(u)) {
                    toggle(u);
                    boolean helps = coast.walkTillOneIsGone() == NONE;
                    toggle(u);
                    if (helps) {
                        return u;
                    }
                }
            }
            return NONE;
        }

        /** Who is at home, of the clergy or not seen anyway changes nothing, so the fewest never have it. */
        private boolean isWorthHiding(int u) {
            int unseen = coast.hidden[u / MOST_PEOPLE] | coast.people.clergyBits;
            int who = u % MOST_PEOPLE;
            return who < coast.people.size && coast.streets[u] != NONE && (unseen >> who & 1) == 0;
        }

        private void toggle(int u) {
            coast.hidden[u / MOST_PEOPLE] ^= 1 << u % MOST_PEOPLE;
        }
    }

    /** The streets for one in the first hours, with an errand, by which fewest are gone and it bows least low. */
    private static final class StrollPlan {
        static final int LENGTH = 3;
        private static final int CHOICES = STREETS + 1, ROWS = CHOICES * CHOICES * CHOICES;

        private final Coast coast;
        private final int[] row = new int[LENGTH];
        private final int[] best = new int[LENGTH];
        int gone;

        StrollPlan(Coast coast) {
            this.coast = coast;
        }

        void find(int person, int errand) {
            coast.layOut(NONE, 0);
            int least = (DEEPEST + 1) * (MOST_PEOPLE + 1);
            for (int r = 0; r < ROWS; r++) {
                row[0] = r / (CHOICES * CHOICES);
                row[1] = r / CHOICES % CHOICES;
                row[2] = r % CHOICES;
                if (row[0] == errand || row[1] == errand || row[2] == errand) {
                    int cost = costFor(person);
                    if (cost < least) {
                        least = cost;
                        System.arraycopy(row, 0, best, 0, LENGTH);
                    }
                }
            }
            gone = least / (DEEPEST + 1);
        }

        int streetIn(int hour) {
            return within(hour, 0, LENGTH - 1) ? best[hour] : NONE;
        }

        /** One gone more weighs more than the lowest bow. */
        private int costFor(int person) {
            for (int hour = 0; hour < LENGTH; hour++) {
                coast.streets[hour * MOST_PEOPLE + person] = row[hour] == STREETS ? NONE : row[hour];
            }
            coast.begin();
            coast.walkTo(LAST_HOUR);
            return (DEEPEST + 1) * Integer.bitCount(coast.gone) + coast.lowest[person];
        }
    }

    /** What was seen, held against what would be so without one old bow or one umbrella. */
    private static final class Clues {
        private final Coast coast;
        private final Ledger sights;
        /** At 8 times the old bow that is left out, and who: how low it bows at most in all hours. */
        private final int[] lowestWithout = new int[MOST_OLD * MOST_PEOPLE];

        Clues(Coast coast, Ledger sights) {
            this.coast = coast;
            this.sights = sights;
        }

        int oldBowsThatNeverWere() {
            int bits = 0;
            for (int k = 0; k < coast.olds.size; k++) {
                coast.layOut(k, 0);
                if (comesOutAsSeen()) {
                    bits |= 1 << k;
                    System.arraycopy(coast.lowest, 0, lowestWithout, k * MOST_PEOPLE, MOST_PEOPLE);
                }
            }
            return bits;
        }

        int umbrellasLeft() {
            int bits = 0;
            for (int u = 0; u < coast.umbrellas.size; u++) {
                coast.layOut(NONE, 1 << u);
                if (comesOutAsSeen()) {
                    bits |= 1 << u;
                }
            }
            return bits;
        }

        int nextToPass() {
            int candidates = oldBowsThatNeverWere();
            int next = NONE, least = MOST_OLD + 1;
            for (int person = 0; person < coast.people.size; person++) {
                int greatest = greatestAlike(person, candidates);
                if (greatest < least) {
                    least = greatest;
                    next = person;
                }
            }
            return next;
        }

        private boolean comesOutAsSeen() {
            boolean asSeen = true;
            coast.begin();
            for (int hour = 0; hour < HOURS && asSeen; hour++) {
                coast.walkThrough(hour);
                asSeen = isAsSeenBehind(hour);
            }
            return asSeen;
        }

        private boolean isAsSeenBehind(int hour) {
            for (int i = 0; i < sights.size; i++) {
                int who = sights.two[i];
                if (sights.one[i] == hour
                    && (who >= coast.people.size || coast.lowest[who] != sights.three[i])) {
                    return false;
                }
            }
            return true;
        }

        private int greatestAlike(int person, int candidates) {
            int greatest = 0;
            for (int k = 0; k < MOST_OLD; k++) {
                int alike = 0;
                for (int j = 0; j < MOST_OLD && (candidates >> k & 1) != 0; j++) {
                    if ((candidates >> j & 1) != 0 && lowestOf(j, person) == lowestOf(k, person)) {
                        alike++;
                    }
                }
                greatest = Math.max(greatest, alike);
            }
            return greatest;
        }

        private int lowestOf(int oldLess, int person) {
            return lowestWithout[oldLess * MOST_PEOPLE + person];
        }
    }

    /** The chances that each is gone, if umbrellas are forgotten by so many sixteenths. */
    private static final class Chances {
        private final Coast coast;
        /** For each of people, out of 16 to the power of the number of umbrellas. */
        private final long[] weights = new long[MOST_PEOPLE];

        Chances(Coast coast) {
            this.coast = coast;
        }

        void weigh(int c, int hour) {
            Arrays.fill(weights, 0L);
            int ways = 1 << coast.umbrellas.size;
            for (int forgotten = 0; forgotten < ways; forgotten++) {
                long weight = weightOf(forgotten, c);
                if (weight != 0) {
                    coast.layOut(NONE, forgotten);
                    coast.begin();
                    coast.walkTo(hour);
                    addToGone(weight);
                }
            }
        }

        long above(int person) {
            return weights[person] >> halvings(person);
        }

        long below(int person) {
            return 1L << bitsOfWhole() - halvings(person);
        }

        private long weightOf(int forgotten, int c) {
            long weight = 1;
            for (int u = 0; u < coast.umbrellas.size; u++) {
                weight *= (forgotten >> u & 1) != 0 ? c : SIXTEENTHS - c;
            }
            return weight;
        }

        private void addToGone(long weight) {
            for (int person = 0; person < coast.people.size; person++) {
                if (coast.isGone(person)) {
                    weights[person] += weight;
                }
            }
        }

        private int bitsOfWhole() {
            return 4 * coast.umbrellas.size;
        }

        /** The whole is a power of 2, so halving both as often as it goes leaves lowest terms. */
        private int halvings(int person) {
            int halvings = 0;
            while (halvings < bitsOfWhole() && (weights[person] >> halvings & 1L) == 0) {
                halvings++;
            }
            return halvings;
        }
    }

    /** A row of bytes, shorts or ints, or lost. */
    private static final class Sheet {
        final int[] items = new int[MOST_ITEMS];
        boolean lost = true;
        int form;
        int size;

        void begin(int newForm, int newSize) {
            Arrays.fill(items, 0);
            form = newForm;
            size = newSize;
            lost = false;
        }

        /** The first finding that an item, treated as of a form, has; 0: it is well. */
        int findingAt(int asForm, int i) {
            if (lost) {
                return NULL;
            }
            if (form != asForm) {
                return CAST;
            }
            return within(i, 0, size - 1) ? 0 : INDEX;
        }

        boolean hasItems(int from, int n) {
            return from >= 0 && n >= 0 && n <= size - from;
        }

        void put(int i, int v) {
            switch (form) {
                case 0: items[i] = (byte) v; break;
                case 1: items[i] = (short) v; break;
                default: items[i] = v; break;
            }
        }
    }
}
