import java.math.BigInteger;
import java.util.ArrayList;
import java.util.HashMap;
import java.util.List;
import java.util.Map;
import java.util.Random;
import java.util.TreeSet;
import java.util.regex.Matcher;
import java.util.regex.Pattern;

/** Chance coasts (by fixed seeds), each answer held against a slow model written from the document's words. */
public final class ModelRuns {
    private static final int NONE = -1, BAD = -2;
    private static int checks, wrong;

    /** One bow: who, to whom, how low. */
    private record Bow(int who, int to, int low) { }

    private record Hidden(int hour, int person) { }

    private record Sight(int hour, int person, int low) { }

    /** What one walk through hours comes to. */
    private static final class Outcome {
        final Map<Integer, Bow> last = new HashMap<>();
        final int[] low = new int[8];
        final TreeSet<Integer> gone = new TreeSet<>();
        int bows, firstHour = NONE, firstWho = NONE;
    }

    private static final class Model {
        static final String ONE = "[opc][0-9][0-9][1-9]";
        static final Pattern PEOPLE = Pattern.compile("(" + ONE + "(;" + ONE + "){0,7})?");
        static final Pattern WALKS = Pattern.compile("[a-h]{0,12}(;[a-h]{0,12}){0,7}");
        String peopleText = "", walksText = "";
        final List<Bow> olds = new ArrayList<>();
        final List<Hidden> umbrellas = new ArrayList<>();
        final List<Sight> sights = new ArrayList<>();

        static int faultOf(Pattern pattern, String text) {
            for (int n = 1; n <= text.length(); n++) {
                Matcher m = pattern.matcher(text.substring(0, n));
                if (!m.matches() && !m.hitEnd()) {
                    return n - 1;
                }
            }
            return pattern.matcher(text).matches() ? NONE : text.length();
        }

        String[] people() {
            boolean none = peopleText.isEmpty() || faultOf(PEOPLE, peopleText) != NONE;
            return none ? new String[0] : peopleText.split(";");
        }

        String[] walks() {
            boolean none = walksText.isEmpty() || faultOf(WALKS, walksText) != NONE;
            return none ? new String[0] : walksText.split(";", -1);
        }

        static int streetOf(String[] walks, int hour, int person) {
            return person < walks.length && hour < walks[person].length() ? walks[person].charAt(hour) - 'a' : NONE;
        }

        static int key(int a, int b) {
            return 8 * Math.min(a, b) + Math.max(a, b);
        }

        static Bow nextBow(String[] people, Outcome o, int a, int b) {
            Bow last = o.last.get(key(a, b));
            if (last == null) {
                boolean proudA = people[a].charAt(0) == 'p', proudB = people[b].charAt(0) == 'p';
                int who = proudA == proudB ? Math.min(a, b) : proudA ? b : a;
                return new Bow(who, a + b - who, 1);
            }
            String who = people[last.to()];
            int more = who.charAt(3) - '0' + (who.charAt(0) == 'p' ? 1 : 0);
            return new Bow(last.to(), last.who(), last.low() + more);
        }

        static boolean away(String[] people, Outcome o, int a) {
            return people[a].charAt(0) == 'c' || o.gone.contains(a);
        }

        static void meet(String[] people, Outcome o, int a, int b, int hour) {
            if (a == b || away(people, o, a) || away(people, o, b)) {
                return;
            }
            Bow bow = nextBow(people, o, a, b);
            if (bow.low() > Integer.parseInt(people[bow.who()].substring(1, 3))) {
                if (o.gone.isEmpty()) {
                    o.firstHour = hour;
                    o.firstWho = bow.who();
                }
                o.gone.add(bow.who());
            } else {
                o.last.put(key(a, b), bow);
                o.low[bow.who()] = Math.max(o.low[bow.who()], bow.low());
                o.bows++;
            }
        }

        static Outcome walk(String[] people, String[] walks, List<Bow> olds, List<Hidden> umbrellas, int lastHour) {
            Outcome o = new Outcome();
            for (Bow bow : olds) {
                o.last.put(key(bow.who(), bow.to()), bow);
            }
            for (int hour = 0; hour <= lastHour; hour++) {
                for (int a = 0; a < people.length; a++) {
                    for (int b = a + 1; b < people.length; b++) {
                        int street = streetOf(walks, hour, a);
                        if (street != NONE && street == streetOf(walks, hour, b)
                            && !umbrellas.contains(new Hidden(hour, a)) && !umbrellas.contains(new Hidden(hour, b))) {
                            meet(people, o, a, b, hour);
                        }
                    }
                }
            }
            return o;
        }

        Outcome told(int hour) {
            return walk(people(), walks(), olds, umbrellas, hour);
        }

        int owes(Outcome o, int person, int to) {
            String[] people = people();
            if (people[person].charAt(0) == 'c' || people[to].charAt(0) == 'c') {
                return 0;
            }
            Bow next = nextBow(people, o, person, to);
            return next.who() == person ? next.low() : 0;
        }

        int[] ends(int a, int b) {
            Outcome o = told(11);
            String[] people = people();
            if (away(people, o, a) || away(people, o, b)) {
                return new int[] {NONE, NONE};
            }
            int before = o.bows;
            while (!o.gone.contains(a) && !o.gone.contains(b)) {
                meet(people, o, a, b, 12);
            }
            return new int[] {o.bows - before, o.gone.contains(a) ? 0 : 1};
        }

        int[] rings(Outcome o) {
            int n = people().length;
            TreeSet<Integer> found = new TreeSet<>();
            for (int a = 0; a < n; a++) {
                for (int b = 0; b < n; b++) {
                    for (int c = 0; c < n; c++) {
                        if (a != b && b != c && a != c && owes(o, a, b) > 0 && owes(o, b, c) > 0 && owes(o, c, a) > 0) {
                            int[] three = {a, b, c};
                            java.util.Arrays.sort(three);
                            found.add(64 * three[0] + 8 * three[1] + three[2]);
                        }
                    }
                }
            }
            return new int[] {found.size(), found.isEmpty() ? NONE : found.first()};
        }

        boolean nobodyGoneWith(int... numbers) {
            List<Hidden> more = new ArrayList<>(umbrellas);
            for (int u : numbers) {
                more.add(new Hidden(u / 8, u % 8));
            }
            return walk(people(), walks(), olds, more, 11).gone.isEmpty();
        }

        int[] shade() {
            if (nobodyGoneWith()) {
                return new int[] {0, NONE, NONE};
            }
            for (int u = 0; u < 96; u++) {
                if (nobodyGoneWith(u)) {
                    return new int[] {1, u, NONE};
                }
            }
            for (int u = 0; u < 96; u++) {
                for (int v = u + 1; v < 96; v++) {
                    if (nobodyGoneWith(u, v)) {
                        return new int[] {2, u, v};
                    }
                }
            }
            return new int[] {NONE, NONE, NONE};
        }

        int[] stroll(int person, int errand) {
            String[] walks = java.util.Arrays.copyOf(walks(), 8);
            for (int i = 0; i < 8; i++) {
                walks[i] = (walks[i] == null ? "" : walks[i]) + "~".repeat(12);
            }
            String rest = walks[person].substring(3);
            int[] best = null;
            int bestLow = 0;
            for (int a = 0; a < 9; a++) {
                for (int b = 0; b < 9; b++) {
                    for (int c = 0; c < 9; c++) {
                        if (a != errand && b != errand && c != errand) {
                            continue;
                        }
                        String row = "" + "abcdefgh~".charAt(a) + "abcdefgh~".charAt(b) + "abcdefgh~".charAt(c);
                        walks[person] = row + rest;
                        Outcome o = walkWithHomes(walks);
                        int gone = o.gone.size(), low = o.low[person];
                        if (best == null || gone < best[0] || gone == best[0] && low < bestLow) {
                            best = new int[] {gone, a, b, c};
                            bestLow = low;
                        }
                    }
                }
            }
            return best;
        }

        /** ~ stands for home: each one's own street, so that nobody meets there. */
        Outcome walkWithHomes(String[] walks) {
            String[] apart = new String[8];
            for (int i = 0; i < 8; i++) {
                apart[i] = walks[i].replace('~', (char) ('A' + 30 + 100 + i));
            }
            return walk(people(), apart, olds, umbrellas, 11);
        }

        boolean asSeen(List<Bow> olds, List<Hidden> umbrellas) {
            String[] people = people();
            for (Sight sight : sights) {
                boolean there = sight.person() < people.length;
                if (!there || walk(people, walks(), olds, umbrellas, sight.hour()).low[sight.person()] != sight.low()) {
                    return false;
                }
            }
            return true;
        }

        static <T> List<T> without(List<T> list, int i) {
            List<T> rest = new ArrayList<>(list);
            rest.remove(i);
            return rest;
        }

        int never() {
            int bits = 0;
            for (int i = 0; i < olds.size(); i++) {
                bits |= asSeen(without(olds, i), umbrellas) ? 1 << i : 0;
            }
            return bits;
        }

        int left() {
            int bits = 0;
            for (int i = 0; i < umbrellas.size(); i++) {
                bits |= asSeen(olds, without(umbrellas, i)) ? 1 << i : 0;
            }
            return bits;
        }

        int pass() {
            int candidates = never(), next = NONE, least = 99;
            for (int p = 0; p < people().length; p++) {
                Map<Integer, Integer> alike = new HashMap<>();
                int greatest = 0;
                for (int i = 0; i < olds.size(); i++) {
                    if ((candidates >> i & 1) != 0) {
                        int low = walk(people(), walks(), without(olds, i), umbrellas, 11).low[p];
                        greatest = Math.max(greatest, alike.merge(low, 1, Integer::sum));
                    }
                }
                if (greatest < least) {
                    least = greatest;
                    next = p;
                }
            }
            return next;
        }

        BigInteger[][] forgets(int c, int hour) {
            int n = umbrellas.size();
            BigInteger whole = BigInteger.valueOf(16).pow(n);
            BigInteger[] sums = new BigInteger[8];
            java.util.Arrays.fill(sums, BigInteger.ZERO);
            for (int kept = 0; kept < 1 << n; kept++) {
                List<Hidden> some = new ArrayList<>();
                for (int u = 0; u < n; u++) {
                    if ((kept >> u & 1) != 0) {
                        some.add(umbrellas.get(u));
                    }
                }
                BigInteger weight = BigInteger.valueOf(16 - c).pow(some.size()).multiply(BigInteger.valueOf(c).pow(n - some.size()));
                for (int p : walk(people(), walks(), olds, some, hour).gone) {
                    sums[p] = sums[p].add(weight);
                }
            }
            BigInteger[][] fractions = new BigInteger[8][];
            for (int p = 0; p < 8; p++) {
                BigInteger common = sums[p].gcd(whole);
                fractions[p] = new BigInteger[] {sums[p].divide(common), whole.divide(common)};
            }
            return fractions;
        }

        Outcome season(int seed, int n) {
            Outcome o = told(11);
            String[] people = people();
            long state = seed & 0xffffffffL;
            for (int i = 0; i < n && people.length > 0; i++) {
                state = (1103515245L * state + 12345) & 0xffffffffL;
                int a = (int) ((state / 65536) % people.length);
                state = (1103515245L * state + 12345) & 0xffffffffL;
                int b = (int) ((state / 65536) % people.length);
                meet(people, o, a, b, 12);
            }
            return o;
        }
    }

    private static void due(String what, long got, long want) {
        checks++;
        if (got != want) {
            wrong++;
            if (wrong < 50) {
                System.out.println(what + " answered " + got + ", the model says " + want);
            }
        }
    }

    private static String somePeople(Random r) {
        int n = r.nextInt(9), deep = 1 + r.nextInt(99);
        StringBuilder text = new StringBuilder();
        for (int i = 0; i < n; i++) {
            int can = r.nextInt(4) == 0 ? r.nextInt(100) : r.nextInt(deep + 1);
            text.append(i > 0 ? ";" : "").append("oooppoocop".charAt(r.nextInt(10)));
            text.append(can / 10).append(can % 10).append(1 + r.nextInt(9));
        }
        return spoilt(r, text);
    }

    private static String someWalks(Random r) {
        int n = r.nextInt(5) == 0 ? r.nextInt(9) : 8, streets = 1 + r.nextInt(3), hours = 1 + r.nextInt(12);
        StringBuilder text = new StringBuilder();
        for (int i = 0; i < n && text.length() < 71; i++) {
            text.append(i > 0 ? ";" : "");
            int mine = r.nextInt(3) == 0 ? r.nextInt(13) : hours;
            for (int h = 0; h < mine && text.length() < 71; h++) {
                text.append((char) ('a' + (r.nextInt(12) == 0 ? r.nextInt(8) : r.nextInt(streets))));
            }
        }
        return spoilt(r, text);
    }

    private static String spoilt(Random r, StringBuilder text) {
        if (text.length() > 0 && r.nextInt(12) == 0) {
            text.setCharAt(r.nextInt(text.length()), r.nextBoolean() ? ';' : (char) r.nextInt(256));
        }
        if (text.length() > 0 && r.nextInt(25) == 0) {
            text.setLength(r.nextInt(text.length()));
        }
        return text.toString();
    }

    private static void tell(LowerBows x, Model m, Random r) {
        m.peopleText = somePeople(r);
        m.walksText = someWalks(r);
        for (int i = 0; i < m.peopleText.length(); i++) {
            x.type(0, m.peopleText.charAt(i));
        }
        for (int i = 0; i < m.walksText.length(); i++) {
            x.type(1, m.walksText.charAt(i));
        }
        int olds = r.nextInt(3) == 0 ? 12 : r.nextInt(6), umbrellas = r.nextInt(6) == 0 ? 8 : r.nextInt(5);
        for (int i = 0; i < olds; i++) {
            int who = r.nextInt(8), to = (who + 1 + r.nextInt(7)) % 8, low = 1 + r.nextInt(r.nextBoolean() ? 99 : 10);
            m.olds.add(new Bow(who, to, low));
            due("old()", x.old(who, to, low), m.olds.size());
        }
        for (int i = 0; i < umbrellas; i++) {
            int hour = r.nextInt(12), person = r.nextInt(8);
            m.umbrellas.add(new Hidden(hour, person));
            due("umbrella()", x.umbrella(hour, person), m.umbrellas.size());
        }
    }

    /** Mostly what would be so without one of the old bows, so that some of them come out as seen. */
    private static void see(LowerBows x, Model m, Random r) {
        int n = r.nextInt(4), people = m.people().length;
        for (int i = 0; i < n; i++) {
            int hour = r.nextInt(12), person = r.nextInt(r.nextInt(10) == 0 || people == 0 ? 8 : people);
            List<Bow> olds = m.olds.isEmpty() ? m.olds : Model.without(m.olds, m.olds.size() - 1);
            Outcome o = Model.walk(m.people(), m.walks(), olds, m.umbrellas, hour);
            int low = r.nextInt(10) == 0 ? r.nextInt(100) : o.low[person];
            m.sights.add(new Sight(hour, person, low));
            due("seen()", x.seen(hour, person, low), m.sights.size());
        }
    }

    private static void compareTold(String run, LowerBows x, Model m) {
        due(run + "fault(0)", x.fault(0), Model.faultOf(Model.PEOPLE, m.peopleText));
        due(run + "fault(1)", x.fault(1), Model.faultOf(Model.WALKS, m.walksText));
        String[] people = m.people(), walks = m.walks();
        int[] counts = {people.length, walks.length, m.peopleText.length(), m.walksText.length(), m.olds.size(),
            m.umbrellas.size(), m.told(11).bows, m.sights.size(), 0};
        for (int what = 0; what <= 8; what++) {
            due(run + "count(" + what + ")", x.count(what), counts[what]);
        }
        for (int p = 0; p < 9; p++) {
            boolean there = p < people.length;
            due(run + "person(" + p + ", 0)", x.person(p, 0), there ? "opc".indexOf(people[p].charAt(0)) : BAD);
            due(run + "person(" + p + ", 1)", x.person(p, 1), there ? Integer.parseInt(people[p].substring(1, 3)) : BAD);
            due(run + "person(" + p + ", 2)", x.person(p, 2), there ? people[p].charAt(3) - '0' : BAD);
            for (int hour = 0; hour < 12; hour++) {
                due(run + "street()", x.street(hour, p), there ? Model.streetOf(walks, hour, p) : BAD);
            }
        }
    }

    private static void compareHours(String run, LowerBows x, Model m) {
        int n = m.people().length;
        for (int hour = 0; hour < 12; hour++) {
            Outcome o = m.told(hour);
            int bits = 0;
            for (int p : o.gone) {
                bits |= 1 << p;
            }
            due(run + "behind(" + hour + ", 0)", x.behind(hour, 0), bits);
            due(run + "behind(" + hour + ", 1)", x.behind(hour, 1), o.bows);
            int[] rings = m.rings(o);
            due(run + "rings(" + hour + ", 0)", x.rings(hour, 0), rings[0]);
            due(run + "rings(" + hour + ", 1)", x.rings(hour, 1), rings[1]);
            for (int a = 0; a < n; a++) {
                due(run + "low(" + hour + ", " + a + ")", x.low(hour, a), o.low[a]);
                for (int b = 0; b < n; b++) {
                    due(run + "owes(" + hour + ", " + a + ", " + b + ")", x.owes(hour, a, b), a == b ? BAD : m.owes(o, a, b));
                }
            }
        }
        Outcome all = m.told(11);
        due(run + "first(0)", x.first(0), all.firstHour);
        due(run + "first(1)", x.first(1), all.firstWho);
        for (int a = 0; a < n; a++) {
            for (int b = 0; b < n; b++) {
                int[] ends = a == b ? new int[] {BAD, BAD} : m.ends(a, b);
                due(run + "ends(" + a + ", " + b + ", 0)", x.ends(a, b, 0), ends[0]);
                due(run + "ends(" + a + ", " + b + ", 1)", x.ends(a, b, 1), ends[1]);
            }
        }
    }

    private static void compareRest(String run, LowerBows x, Model m, Random r) {
        int n = m.people().length;
        due(run + "never(0)", x.never(0), m.never());
        due(run + "never(1)", x.never(1), m.left());
        due(run + "pass()", x.pass(), m.pass());
        int c = r.nextInt(17), hour = r.nextInt(12), seed = r.nextInt(), times = 1 + r.nextInt(99);
        BigInteger[][] chances = m.forgets(c, hour);
        Outcome season = m.season(seed, times);
        due(run + "season(" + seed + ", " + times + ", NONE)", x.season(seed, times, NONE), season.gone.size());
        for (int p = 0; p < n; p++) {
            due(run + "forgets(" + c + ", " + hour + ", " + p + ", 0)", x.forgets(c, hour, p, 0), chances[p][0].longValueExact());
            due(run + "forgets(" + c + ", " + hour + ", " + p + ", 1)", x.forgets(c, hour, p, 1), chances[p][1].longValueExact());
            due(run + "season(" + seed + ", " + times + ", " + p + ")", x.season(seed, times, p), season.low[p]);
        }
    }

    private static void comparePlans(String run, LowerBows x, Model m, Random r) {
        int[] shade = m.shade();
        for (int i = NONE; i <= 1; i++) {
            due(run + "shade(" + i + ")", x.shade(i), shade[i + 1]);
        }
        int n = m.people().length;
        if (n > 0) {
            int person = r.nextInt(n), errand = r.nextInt(8);
            int[] stroll = m.stroll(person, errand);
            for (int i = NONE; i <= 2; i++) {
                due(run + "stroll(" + person + ", " + errand + ", " + i + ")", x.stroll(person, errand, i), stroll[i + 1]);
            }
        }
    }

    public static void main(String[] args) {
        int runs = args.length > 0 ? Integer.parseInt(args[0]) : 400;
        for (int seed = 1; seed <= runs; seed++) {
            Random r = new Random(seed);
            LowerBows x = new LowerBows();
            Model m = new Model();
            String run = "run " + seed + ": ";
            tell(x, m, r);
            see(x, m, r);
            compareTold(run, x, m);
            compareHours(run, x, m);
            compareRest(run, x, m, r);
            if (seed % 4 == 0) {
                comparePlans(run, x, m, r);
            }
        }
        System.out.println(checks + " answers held against the model, " + wrong + " unlike");
        if (wrong != 0) {
            System.exit(1);
        }
    }
}
