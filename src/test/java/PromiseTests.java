/** For each promise: ordinary inputs, the edges that the document names, and wrong inputs. */
public final class PromiseTests {
    private static final int NONE = -1, BAD = -2, NOT = -3, FULL = -4;
    private static final int NULL = -11, INDEX = -12, CAST = -13, STORE = -14, SIZE = -15;
    private static final long BAD_LONG = Long.MIN_VALUE + 2;

    private static int checks, wrong;

    private static void due(int promise, String call, long got, long want) {
        checks++;
        if (got != want) {
            wrong++;
            System.out.println("promise " + promise + ": " + call + " answered " + got + ", due is " + want);
        }
    }

    private static void tell(LowerBows x, int text, String bytes) {
        for (int i = 0; i < bytes.length(); i++) {
            x.type(text, bytes.charAt(i));
        }
    }

    private static LowerBows of(String people, String walks) {
        LowerBows x = new LowerBows();
        tell(x, 0, people);
        tell(x, 1, walks);
        return x;
    }

    public static void main(String[] args) {
        promise1();
        promise2();
        promises3And4();
        promise5People();
        promise5Walks();
        promise6();
        promise7();
        promise8();
        promise9();
        promise10();
        promise11();
        promise12();
        promise12Order();
        lastHourCounts();
        promise13();
        promise14();
        promise15();
        promise16();
        promise17();
        promise18();
        promise19();
        promise20And21();
        promise22();
        promise23();
        promise24();
        promise25();
        promise26();
        promise27();
        promise28And29();
        promise30();
        promise31();
        promise32();
        promise33();
        System.out.println(checks + " answers looked at, " + wrong + " not as due");
        if (wrong != 0) {
            System.exit(1);
        }
    }

    private static void promise1() {
        LowerBows x = new LowerBows();
        for (int what = 0; what <= 8; what++) {
            due(1, "count(" + what + ") of a new one", x.count(what), 0);
        }
        for (int s = 0; s < 4; s++) {
            due(1, "lose(" + s + ") of a new one", x.lose(s), NULL);
        }
        due(1, "pass() of a new one", x.pass(), NONE);
        tell(x, 0, "o991");
        due(1, "no walks", x.street(0, 0), NONE);
        due(1, "behind(11, 0) of a new one", x.behind(11, 0), 0);
        LowerBows y = of("o991;o991", "a;a");
        due(1, "another object is by itself", new LowerBows().count(0), 0);
        due(1, "the told one has its people", y.count(0), 2);
    }

    private static void promise2() {
        LowerBows x = new LowerBows();
        for (int i = 1; i <= 39; i++) {
            due(2, "type(0, ..)", x.type(0, i), i);
        }
        due(2, "type(0) of a fortieth", x.type(0, 111), FULL);
        due(2, "type(0, 256): BAD is ahead of FULL", x.type(0, 256), BAD);
        for (int i = 1; i <= 71; i++) {
            due(2, "type(1, ..)", x.type(1, 255), i);
        }
        due(2, "type(1) of a 72nd", x.type(1, 0), FULL);
        due(2, "bytes of text 0", x.count(2), 39);
        due(2, "bytes of text 1", x.count(3), 71);
        LowerBows y = new LowerBows();
        due(2, "type(-1, 0)", y.type(-1, 0), BAD);
        due(2, "type(2, 0)", y.type(2, 0), BAD);
        due(2, "type(0, -1)", y.type(0, -1), BAD);
        due(2, "type(1, 256)", y.type(1, 256), BAD);
        due(2, "type(0, 0)", y.type(0, 0), 1);
        due(2, "type(1, 255)", y.type(1, 255), 1);
        due(2, "no byte of a refusal stays", y.count(2) + y.count(3), 2);
    }

    private static void promises3And4() {
        LowerBows x = of("o201;p302", "ab;ab");
        due(3, "wipe(0)", x.wipe(0), 9);
        due(3, "wipe(0) again", x.wipe(0), 0);
        due(3, "nobody is left", x.count(0), 0);
        due(3, "text 1 stays", x.count(3), 5);
        due(3, "wipe(-1)", x.wipe(-1), BAD);
        due(3, "wipe(2)", x.wipe(2), BAD);
        due(4, "undo(0) of an empty one", x.undo(0), NOT);
        due(4, "undo(1)", x.undo(1), 4);
        tell(x, 0, "o201;p302");
        due(4, "street(1, 1) is undone", x.street(1, 1), NONE);
        due(4, "street(0, 1) stays", x.street(0, 1), 0);
        due(4, "undo(0)", x.undo(0), 8);
        due(4, "with the fault there is nobody", x.count(0), 0);
        due(4, "undo(-1)", x.undo(-1), BAD);
        due(4, "undo(2)", x.undo(2), BAD);
    }

    private static void faultDue(int text, String bytes, int want) {
        LowerBows x = new LowerBows();
        tell(x, text, bytes);
        due(5, "fault(" + text + ") of '" + bytes + "'", x.fault(text), want);
        due(5, "people or walks of '" + bytes + "' with a fault: none", want == NONE ? 0 : x.count(text), 0);
    }

    private static void promise5People() {
        faultDue(0, "", NONE);
        faultDue(0, "o009", NONE);
        faultDue(0, "p991;c001", NONE);
        faultDue(0, "o", 1);
        faultDue(0, "o1", 2);
        faultDue(0, "o12", 3);
        faultDue(0, "o123;", 5);
        faultDue(0, "o123;p", 6);
        faultDue(0, "a123", 0);
        faultDue(0, ";", 0);
        faultDue(0, "O123", 0);
        faultDue(0, "o:23", 1);
        faultDue(0, "o1/3", 2);
        faultDue(0, "o120", 3);
        faultDue(0, "o12:", 3);
        faultDue(0, "o1234", 4);
        faultDue(0, "o123;;", 5);
        faultDue(0, "o123;o4x", 7);
        faultDue(0, "o001;p002;c003;o994;p995;c996;o507;p508", NONE);
        faultDue(0, "o001;p002;c003;o994;p995;c996;o507;p50x", 38);
        faultDue(0, "o001;p002;c003;o994;p995;c996;o507;p50", 38);
        LowerBows x = new LowerBows();
        due(5, "fault(-1)", x.fault(-1), BAD);
        due(5, "fault(2)", x.fault(2), BAD);
    }

    private static void promise5Walks() {
        faultDue(1, "", NONE);
        faultDue(1, "abcdefghabcd", NONE);
        faultDue(1, "abcdefghabcde", 12);
        faultDue(1, ";abcdefghabcda", 13);
        faultDue(1, "abcdefghabcd;abcdefghabcd;a", NONE);
        faultDue(1, ";;;;;;;", NONE);
        faultDue(1, ";;;;;;;;", 7);
        faultDue(1, "a;b;c;d;e;f;g;h;", 15);
        faultDue(1, "i", 0);
        faultDue(1, "a`", 1);
        faultDue(1, "aA", 1);
        faultDue(1, "a a", 1);
    }

    private static void promise6() {
        LowerBows x = of("o001;p992;c509", "");
        int[][] want = {{0, 0, 1}, {1, 99, 2}, {2, 50, 9}};
        for (int p = 0; p < 3; p++) {
            for (int what = 0; what < 3; what++) {
                due(6, "person(" + p + ", " + what + ")", x.person(p, what), want[p][what]);
            }
        }
        due(6, "person(3, 0)", x.person(3, 0), BAD);
        due(6, "person(-1, 0)", x.person(-1, 0), BAD);
        due(6, "person(0, 3)", x.person(0, 3), BAD);
        due(6, "person(0, -1)", x.person(0, -1), BAD);
        tell(x, 0, "x");
        due(6, "with a fault there is nobody", x.person(0, 0), BAD);
    }

    private static void promise7() {
        LowerBows x = of("o001;p992;c509;o111", "ah;;abcdefghabcd;c;ddd");
        due(7, "street(0, 0)", x.street(0, 0), 0);
        due(7, "street(1, 0)", x.street(1, 0), 7);
        due(7, "behind its last one it is at home", x.street(2, 0), NONE);
        due(7, "an empty walk", x.street(0, 1), NONE);
        due(7, "street(11, 2), also of the clergy", x.street(11, 2), 3);
        due(7, "street(0, 3)", x.street(0, 3), 2);
        due(7, "a walk of nobody", x.street(0, 4), BAD);
        due(7, "street(12, 0)", x.street(12, 0), BAD);
        due(7, "street(-1, 0)", x.street(-1, 0), BAD);
        due(7, "street(0, -1)", x.street(0, -1), BAD);
        x.umbrella(0, 0);
        due(7, "who is not seen is in the street all the same", x.street(0, 0), 0);
        x.wipe(1);
        due(7, "without walks", x.street(0, 0), NONE);
        tell(x, 1, "a?");
        due(7, "with a fault", x.street(0, 0), NONE);
    }

    private static void promise8() {
        LowerBows x = of("o991;o991;o991", "a;a");
        due(8, "old(0, 1, 1)", x.old(0, 1, 1), 1);
        due(8, "old(1, 0, 20)", x.old(1, 0, 20), 2);
        due(8, "the last told counts", x.low(0, 0), 21);
        due(8, "old(0, 1, 30)", x.old(0, 1, 30), 3);
        due(8, "whoever bowed", x.low(0, 1), 31);
        due(8, "old(-1, 1, 1)", x.old(-1, 1, 1), BAD);
        due(8, "old(8, 1, 1)", x.old(8, 1, 1), BAD);
        due(8, "old(0, -1, 1)", x.old(0, -1, 1), BAD);
        due(8, "old(0, 8, 1)", x.old(0, 8, 1), BAD);
        due(8, "old(3, 3, 1)", x.old(3, 3, 1), BAD);
        due(8, "old(0, 1, 0)", x.old(0, 1, 0), BAD);
        due(8, "old(0, 1, 100)", x.old(0, 1, 100), BAD);
        for (int n = 4; n <= 12; n++) {
            due(8, "old(7, 6, 99), of people that there are not", x.old(7, 6, 99), n);
        }
        due(8, "a thirteenth", x.old(0, 1, 1), FULL);
        due(8, "BAD is ahead of FULL", x.old(0, 0, 1), BAD);
        due(8, "how many stay", x.count(4), 12);
        due(8, "old(0, 7, 1) of a new one", new LowerBows().old(0, 7, 1), 1);
        due(8, "an old bow is none of the hours", x.low(11, 2), 0);
    }

    private static void promise9() {
        LowerBows x = of("o991;o991", "aa;aa");
        due(9, "umbrella(0, 1)", x.umbrella(0, 1), 1);
        due(9, "nobody meets whom it does not see", x.behind(0, 1), 0);
        due(9, "in that hour alone", x.behind(1, 1), 1);
        due(9, "umbrella(-1, 0)", x.umbrella(-1, 0), BAD);
        due(9, "umbrella(12, 0)", x.umbrella(12, 0), BAD);
        due(9, "umbrella(0, -1)", x.umbrella(0, -1), BAD);
        due(9, "umbrella(0, 8)", x.umbrella(0, 8), BAD);
        for (int n = 2; n <= 8; n++) {
            due(9, "umbrella(11, 7)", x.umbrella(11, 7), n);
        }
        due(9, "a ninth", x.umbrella(0, 0), FULL);
        due(9, "BAD is ahead of FULL", x.umbrella(12, 0), BAD);
    }

    private static void promise10() {
        LowerBows x = of("o991;o991", "a;a");
        due(10, "back(0) of none", x.back(0), NOT);
        due(10, "back(1) of none", x.back(1), NOT);
        x.old(0, 1, 5);
        x.old(1, 0, 9);
        x.umbrella(3, 0);
        x.umbrella(0, 0);
        due(10, "not seen", x.behind(0, 1), 0);
        due(10, "back(1)", x.back(1), 1);
        due(10, "seen again", x.low(0, 0), 10);
        due(10, "back(0)", x.back(0), 1);
        due(10, "the one ahead counts again", x.low(0, 1), 6);
        due(10, "back(0) of the last", x.back(0), 0);
        due(10, "as if there was none", x.low(0, 0), 1);
        due(10, "back(-1)", x.back(-1), BAD);
        due(10, "back(2)", x.back(2), BAD);
    }

    private static void layAll(LowerBows x, int s, int form, int... items) {
        x.sheet(s, form, items.length);
        for (int i = 0; i < items.length; i++) {
            x.lay(s, form, i, items[i]);
        }
    }

    private static void promise11() {
        LowerBows x = of("o991;o991", "a;a");
        layAll(x, 0, 0, 0, 1, 5, 1, 0, 9, 7, 6);
        due(11, "read(0): two are whole", x.read(0), 2);
        due(11, "count(4)", x.count(4), 2);
        due(11, "the last told counts", x.low(0, 0), 10);
        layAll(x, 1, 2, 3, 4, 99, 4, 4, 1, 0, 1, 50);
        due(11, "read(1): it stops at the first that may not be", x.read(1), 1);
        due(11, "those ahead stay", x.count(4), 3);
        due(11, "nothing behind the stop came", x.low(0, 0), 10);
        layAll(x, 2, 1, -1, 0, 5);
        due(11, "read(2): below 0", x.read(2), 0);
        layAll(x, 2, 1, 0, 1);
        due(11, "read(2): none is whole", x.read(2), 0);
        x.sheet(2, 1, 0);
        due(11, "read(2): no items", x.read(2), 0);
        int[] many = new int[60];
        for (int i = 0; i < 20; i++) {
            many[3 * i] = 5;
            many[3 * i + 1] = 6;
            many[3 * i + 2] = i + 1;
        }
        layAll(x, 3, 2, many);
        due(11, "read(3): as many as there is room for", x.read(3), 9);
        due(11, "count(4): twelve", x.count(4), 12);
        due(11, "read(3) without room", x.read(3), 0);
        LowerBows three = new LowerBows();
        layAll(three, 0, 0, 7, 6, 99);
        due(11, "three items are one old bow", three.read(0), 1);
        due(11, "read(-1)", x.read(-1), BAD);
        due(11, "read(4)", x.read(4), BAD);
        x.lose(3);
        due(11, "no finding so far", x.count(8), 0);
        due(11, "read(3) of a lost one", x.read(3), NULL);
        due(11, "count(8)", x.count(8), 1);
    }

    private static void promise12() {
        // 1, then 1 + 3, then 4 + 2 + 1 for the proud first one ..
        LowerBows x = of("p992;p993", "aaaaa;aaaaa");
        int[] first = {1, 1, 8, 8, 15}, second = {0, 5, 5, 12, 12};
        for (int hour = 0; hour < 5; hour++) {
            due(12, "low(" + hour + ", 0)", x.low(hour, 0), first[hour]);
            due(12, "low(" + hour + ", 1)", x.low(hour, 1), second[hour]);
        }
        due(12, "low(11, 0)", x.low(11, 0), 15);
        LowerBows y = of("p992;o993", "aa;aa");
        due(12, "who is not proud bows first", y.low(0, 1), 1);
        due(12, "the proud one does not", y.low(0, 0), 0);
        due(12, "the proud one repays 1 more", y.low(1, 0), 4);
        due(12, "low(-1, 0)", y.low(-1, 0), BAD);
        due(12, "low(12, 0)", y.low(12, 0), BAD);
        due(12, "low(0, 2)", y.low(0, 2), BAD);
        due(12, "low(0, -1)", y.low(0, -1), BAD);
        LowerBows z = of("o992;o993", "aah;bah");
        due(12, "in unlike streets nobody meets", z.behind(0, 1), 0);
        due(12, "in one street they do", z.behind(1, 1), 1);
        due(12, "in the street h, too", z.behind(2, 1), 2);
        due(12, "at home nobody meets", z.behind(11, 1), 2);
        LowerBows c = of("o992;c993", "aaa;aaa");
        due(12, "the clergy meets nobody", c.behind(11, 1), 0);
    }

    private static void promise12Order() {
        // the pair of 0 and 1 ahead of 0 and 2 ahead of 1 and 2; 0 is gone by the second one
        LowerBows x = of("o201;o201;o201", "a;a;a");
        x.old(1, 0, 3);
        x.old(2, 0, 20);
        x.old(2, 1, 5);
        due(12, "it bows ahead of the one by which it is gone", x.low(0, 0), 4);
        due(12, "the others meet all the same", x.low(0, 1), 6);
        due(12, "who is gone", x.behind(0, 0), 1);
        x.old(1, 0, 20);
        x.old(0, 2, 3);
        due(12, "who is gone in this hour meets nobody more in it", x.low(0, 2), 0);
        due(12, "it is gone", x.behind(0, 0), 1);
        due(12, "one bow is left", x.behind(0, 1), 1);
        LowerBows y = of("o101;o991", "a;a");
        y.old(1, 0, 9);
        due(12, "as low as it can", y.low(0, 0), 10);
        y.old(1, 0, 10);
        due(12, "lower than it can", y.low(0, 0), 0);
        due(12, "it is gone by 1", y.behind(0, 0), 1);
    }

    /** Two who meet in hour 11 alone, 1 being gone by it; a third one is in the streets. */
    private static void lastHourCounts() {
        LowerBows x = of("o991;o991;o991", "aaaaaaaaaaab;bbbbbbbbbbbb;gf");
        due(32, "a bow in hour 11", x.count(6), 1);
        due(25, "a bow in hour 11 counts in the season", x.season(1, 1, 0), 1);
        due(33, "digest() with a bow in hour 11", x.digest(), digestByCalls(x));
        x.old(0, 1, 99);
        due(13, "not yet behind hour 10", x.behind(10, 0), 0);
        due(13, "gone behind hour 11", x.behind(11, 0), 2);
        due(15, "first in hour 11", x.first(0), 11);
        due(15, "who is first in hour 11", x.first(1), 1);
        due(16, "gone in hour 11", x.ends(0, 1, 0), NONE);
        due(18, "an umbrella in hour 11", x.shade(NONE), 1);
        due(18, "which", x.shade(0), 88);
        due(19, "a stroll in hours 0 to 2 does not help", x.stroll(0, 3, NONE), 1);
        due(24, "the chance behind hour 10", x.forgets(3, 10, 1, 0), 0);
        due(24, "the chance behind hour 11", x.forgets(3, 11, 1, 0), 1);
        due(25, "gone in hours is gone in the season", x.season(1, 1, NONE), 1);
        x.umbrella(11, 0);
        due(19, "with the umbrella nobody is gone in a stroll", x.stroll(0, 3, NONE), 0);
        x.back(1);
        x.old(2, 1, 98);
        x.umbrella(5, 5);
        x.seen(11, 0, 1);
        due(22, "without old bow 0 it bows 1", x.never(0), 1);
        due(22, "an umbrella of nobody does not help", x.never(1), 0);
        due(33, "digest() with hour 11", x.digest(), digestByCalls(x));
        x.forget();
        x.seen(0, 0, 0);
        due(33, "digest() with other clues", x.digest(), digestByCalls(x));
    }

    private static void promise13() {
        LowerBows x = of("o001;o501;o501", "aa;aa;aa");
        due(13, "who can not even bow 1 is gone", x.behind(0, 0), 1);
        due(13, "there was no bow of it", x.behind(0, 1), 1);
        due(13, "it stays so", x.behind(11, 0), 1);
        due(13, "one bow an hour", x.behind(1, 1), 2);
        due(13, "no more", x.behind(11, 1), 2);
        due(13, "behind(-1, 0)", x.behind(-1, 0), BAD);
        due(13, "behind(12, 1)", x.behind(12, 1), BAD);
        due(13, "behind(0, -1)", x.behind(0, -1), BAD);
        due(13, "behind(0, 2)", x.behind(0, 2), BAD);
        LowerBows y = new LowerBows();
        due(13, "without people", y.behind(0, 0), 0);
    }

    private static void promise14() {
        LowerBows x = of("o052;p053;c504", "a;a;a");
        due(14, "behind the first bow the other owes", x.owes(0, 1, 0), 5);
        due(14, "it is not its turn", x.owes(0, 0, 1), 0);
        due(14, "nothing to the clergy", x.owes(0, 0, 2), 0);
        due(14, "nor from it", x.owes(0, 2, 0), 0);
        x.old(2, 0, 5);
        due(14, "not by an old bow either", x.owes(0, 0, 2), 0);
        x.old(0, 2, 5);
        due(14, "not by an old bow to it", x.owes(0, 2, 0), 0);
        x.old(0, 1, 99);
        due(14, "more than it can", x.owes(0, 1, 0), 103);
        due(14, "owes(0, 0, 0)", x.owes(0, 0, 0), BAD);
        due(14, "owes(0, 3, 0)", x.owes(0, 3, 0), BAD);
        due(14, "owes(0, 0, 3)", x.owes(0, 0, 3), BAD);
        due(14, "owes(0, -1, 0)", x.owes(0, -1, 0), BAD);
        due(14, "owes(0, 0, -1)", x.owes(0, 0, -1), BAD);
        due(14, "owes(-1, 0, 1)", x.owes(-1, 0, 1), BAD);
        due(14, "owes(12, 0, 1)", x.owes(12, 0, 1), BAD);
        LowerBows y = of("p501;o501;p501;o501", "");
        due(14, "without a bow who is not proud owes 1", y.owes(11, 1, 0), 1);
        due(14, "the proud one does not", y.owes(11, 0, 1), 0);
        due(14, "of two proud ones the least", y.owes(11, 0, 2), 1);
        due(14, "of two that are not the least", y.owes(11, 1, 3), 1);
        due(14, "not the other one", y.owes(11, 3, 1), 0);
        due(14, "who is not proud and greater", y.owes(11, 3, 2), 1);
    }

    private static void promise15() {
        LowerBows x = of("o991;o001;o001;o991", ";bba;bba;cca");
        due(15, "the hour", x.first(0), 0);
        due(15, "who", x.first(1), 1);
        x.umbrella(0, 1);
        due(15, "an hour later", x.first(0), 1);
        x.umbrella(1, 2);
        due(15, "and later", x.first(0), 2);
        due(15, "who is the same", x.first(1), 1);
        x.umbrella(2, 1);
        due(15, "the other one then", x.first(1), 2);
        x.umbrella(2, 2);
        due(15, "none: the hour", x.first(0), NONE);
        due(15, "none: who", x.first(1), NONE);
        due(15, "first(-1)", x.first(-1), BAD);
        due(15, "first(2)", x.first(2), BAD);
        // in the order in which they meet, not the least: 0 with 2 ahead of 1 with 2
        LowerBows y = of("o991;o201;o201", "a;a;a");
        y.old(0, 2, 99);
        y.old(2, 1, 99);
        due(15, "who of two in an hour", y.first(1), 2);
    }

    private static void promise16() {
        LowerBows x = of("o031;o991;c501", "");
        due(16, "0 bows 1 and 3, 1 bows 2 and 4", x.ends(0, 1, 0), 4);
        due(16, "which", x.ends(0, 1, 1), 0);
        due(16, "which, told otherwise", x.ends(1, 0, 1), 1);
        due(16, "of the clergy", x.ends(0, 2, 0), NONE);
        due(16, "of the clergy, which", x.ends(2, 0, 1), NONE);
        due(16, "nothing stays of it", x.low(11, 0), 0);
        x.old(1, 0, 3);
        due(16, "at once", x.ends(0, 1, 0), 0);
        due(16, "ends(0, 0, 0)", x.ends(0, 0, 0), BAD);
        due(16, "ends(3, 0, 0)", x.ends(3, 0, 0), BAD);
        due(16, "ends(0, 3, 0)", x.ends(0, 3, 0), BAD);
        due(16, "ends(-1, 0, 0)", x.ends(-1, 0, 0), BAD);
        due(16, "ends(0, -1, 0)", x.ends(0, -1, 0), BAD);
        due(16, "ends(0, 1, 2)", x.ends(0, 1, 2), BAD);
        due(16, "ends(0, 1, -1)", x.ends(0, 1, -1), BAD);
        LowerBows y = of("o991;o991", "");
        due(16, "the most bows", y.ends(0, 1, 0), 99);
        due(16, "who of both", y.ends(0, 1, 1), 1);
        due(16, "who of both, told otherwise", y.ends(1, 0, 1), 0);
        tell(y, 1, "aaaa;aaaa");
        due(16, "behind hour 11", y.ends(0, 1, 0), 95);
        y.old(0, 1, 99);
        due(16, "who is gone meets nobody", y.ends(0, 1, 0), NONE);
        due(16, "who is gone, the other way", y.ends(1, 0, 1), NONE);
    }

    private static void promise17() {
        LowerBows x = of("o991;o991;o991;o991", "");
        due(17, "the lesser owes the greater: no ring", x.rings(0, 0), 0);
        due(17, "no least one", x.rings(0, 1), NONE);
        x.old(0, 2, 5);
        due(17, "0 to 1 to 2 to 0", x.rings(0, 0), 1);
        due(17, "the least", x.rings(11, 1), 0 * 64 + 1 * 8 + 2);
        x.old(1, 3, 5);
        due(17, "1, 2 and 3 too", x.rings(0, 0), 2);
        x.old(0, 1, 5);
        due(17, "1 owes 0: 0 to 3 to 1 in place of the first", x.rings(0, 0), 2);
        due(17, "it is the least", x.rings(0, 1), 8 + 3);
        x.old(1, 2, 5);
        x.old(2, 0, 5);
        due(17, "the other way round", x.rings(0, 1), 8 + 2);
        due(17, "rings(-1, 0)", x.rings(-1, 0), BAD);
        due(17, "rings(12, 0)", x.rings(12, 0), BAD);
        due(17, "rings(0, -1)", x.rings(0, -1), BAD);
        due(17, "rings(0, 2)", x.rings(0, 2), BAD);
        String[] kinds = {"p991;p991;o991", "p991;o991;p991", "o991;p991;o991"};
        int[][] bows = {{2, 1}, {1, 2}, {0, 1}};
        for (int i = 0; i < 3; i++) {
            LowerBows r = of(kinds[i], "");
            due(17, "first bows alone: " + kinds[i], r.rings(0, 0), 0);
            r.old(bows[i][0], bows[i][1], 5);
            due(17, "with one old bow: " + kinds[i], r.rings(0, 0), 1);
        }
        LowerBows twice = of("o991;o991;o991", "");
        twice.old(1, 2, 5);
        twice.old(0, 2, 5);
        due(17, "2 owes both: no ring", twice.rings(0, 0), 0);
        twice.old(0, 1, 5);
        due(17, "the greater owes the lesser: no ring", twice.rings(0, 0), 0);
        LowerBows y = of("o991;c991;o991", "");
        y.old(0, 2, 5);
        due(17, "none through the clergy", y.rings(0, 0), 0);
        LowerBows z = of("o991;o991;o001", "a;;a");
        z.old(0, 2, 5);
        due(17, "who is gone still owes", z.behind(0, 0) + 10 * z.rings(0, 0), 14);
    }

    private static void promise18() {
        LowerBows x = of("o991;o991", "aa;aa");
        due(18, "none is needed", x.shade(NONE), 0);
        due(18, "the 0th of none", x.shade(0), NONE);
        due(18, "the 1st of none", x.shade(1), NONE);
        x.old(0, 1, 99);
        due(18, "1 would be gone in both hours", x.shade(NONE), 2);
        due(18, "the least row, 0th", x.shade(0), 0);
        due(18, "the least row, 1st", x.shade(1), 8);
        x.undo(1);
        due(18, "in one hour", x.shade(NONE), 1);
        due(18, "0 under it", x.shade(0), 0);
        due(18, "there is no other", x.shade(1), NONE);
        LowerBows y = of("o991;o991", "aaa;aaa");
        y.old(0, 1, 99);
        due(18, "three hours: no two help", y.shade(NONE), NONE);
        due(18, "no 0th", y.shade(0), NONE);
        due(18, "no 1st", y.shade(1), NONE);
        for (int i = 0; i < 7; i++) {
            y.umbrella(11, 0);
        }
        y.umbrella(1, 1);
        due(18, "whatever room there is", y.shade(NONE), 2);
        due(18, "beside those that there are, 0th", y.shade(0), 0);
        due(18, "beside those that there are, 1st", y.shade(1), 16);
        due(18, "none of them stays", y.count(5), 8);
        LowerBows other = of("o991;o991;o991", "b;a;a");
        other.old(1, 2, 99);
        due(18, "one who does no harm need not hide", other.shade(0), 1);
        LowerBows pairs = of("o991;o991;o991;o991", "a;b;a;b");
        pairs.old(0, 2, 99);
        pairs.old(1, 3, 99);
        due(18, "two in one hour", pairs.shade(NONE), 2);
        due(18, "two in one hour, 0th", pairs.shade(0), 0);
        due(18, "two in one hour, 1st", pairs.shade(1), 1);
        pairs.umbrella(0, 2);
        due(18, "one of them hides already", pairs.shade(NONE), 1);
        due(18, "the other one", pairs.shade(0), 1);
        due(18, "shade(-2)", y.shade(-2), BAD);
        due(18, "shade(2)", y.shade(2), BAD);
    }

    private static void promise19() {
        LowerBows x = of("o991;o991", "abc;abc");
        x.old(0, 1, 99);
        due(19, "as it is: 1 is gone", x.behind(11, 0), 2);
        due(19, "by another walk nobody is", x.stroll(0, 3, NONE), 0);
        due(19, "not a in hour 0", x.stroll(0, 3, 0), 1);
        due(19, "a in hour 1", x.stroll(0, 3, 1), 0);
        due(19, "the errand last", x.stroll(0, 3, 2), 3);
        due(19, "an errand in a", x.stroll(0, 0, 0), 1);
        due(19, "an errand in a, 1", x.stroll(0, 0, 1), 0);
        due(19, "an errand in a, 2", x.stroll(0, 0, 2), 0);
        due(19, "its walk stays", x.street(0, 0), 0);
        LowerBows y = of("o201;o991", "aaaa;aaaa");
        y.old(1, 0, 5);
        due(19, "it bows in hour 3 anyway", y.stroll(0, 0, NONE), 0);
        due(19, "least low: it is in a in one hour alone, or in all", y.stroll(0, 0, 0), 0);
        due(19, "then not in a", y.stroll(0, 0, 1), 1);
        due(19, "nor then", y.stroll(0, 0, 2), 1);
        // in a 2 would be gone in hour 0, but in hour 1 it is but 99 low to 1, and twice is too low for 1
        LowerBows w = of("o991;o991;o991", ";caa;a");
        w.old(0, 2, 99);
        w.old(1, 0, 98);
        due(19, "nobody is gone, though it bows 99 low", w.stroll(0, 0, NONE), 0);
        int[] row = {1, 0, 1};
        for (int i = 0; i < 3; i++) {
            due(19, "the errand in hour 1 alone: " + i, w.stroll(0, 0, i), row[i]);
        }
        LowerBows z = of("c501", "");
        due(19, "the errand in the last hour", z.stroll(0, 7, 2), 7);
        due(19, "the errand in a: the very least row", z.stroll(0, 0, 2), 0);
        due(19, "the least row", z.stroll(0, 7, 0), 0);
        due(19, "stroll(-1, 0, 0)", z.stroll(-1, 0, 0), BAD);
        due(19, "stroll(1, 0, 0)", z.stroll(1, 0, 0), BAD);
        due(19, "stroll(0, -1, 0)", z.stroll(0, -1, 0), BAD);
        due(19, "stroll(0, 8, 0): no errand at home", z.stroll(0, 8, 0), BAD);
        due(19, "stroll(0, 0, -2)", z.stroll(0, 0, -2), BAD);
        due(19, "stroll(0, 0, 3)", z.stroll(0, 0, 3), BAD);
        // 0 is gone wherever it meets one: in hour 0 only h is free, in hour 1 only a is, in hour 2 none but home
        LowerBows h = of("o001;o991;o991;o991;o991;o991;o991;o991", ";ab;bc;cd;de;ef;fg;gh");
        due(19, "h is free in hour 0", h.stroll(0, 7, NONE), 0);
        due(19, "h in hour 0", h.stroll(0, 7, 0), 7);
        due(19, "a in hour 1", h.stroll(0, 7, 1), 0);
        due(19, "one is gone by an errand in b", h.stroll(0, 1, NONE), 0);
        due(19, "its hour is then the last, where all are at home", h.stroll(0, 1, 2), 1);
        LowerBows home = of("o001;o991;o991;o991;o991;o991;o991;o991", "aaa;aaa;bbb;ccc;ddd;eee;fff;ggg");
        due(19, "an errand in h", home.stroll(0, 7, NONE), 0);
        due(19, "h in hour 0: each other street is taken", home.stroll(0, 7, 0), 7);
        home.undo(0);
        home.undo(0);
        home.undo(0);
        home.undo(0);
        home.undo(0);
        tell(home, 0, ";c991");
        due(19, "g is free, of the clergy is in it", home.stroll(0, 7, 0), 6);
        // all eight streets are taken but that of the errand, and that in one hour: home is all that is left
        LowerBows all = of("o001;o991;o991;o991;o991;o991;o991;o991", ";aab;bbc;ccd;dde;eef;ffg;ggh");
        all.wipe(1);
        tell(all, 1, ";haa;bbb;ccc;ddd;eee;fff;ggg");
        due(19, "a is free in hour 0", all.stroll(0, 0, 0), 0);
        due(19, "h is free in hour 1", all.stroll(0, 0, 1), 7);
    }

    private static void promise20And21() {
        LowerBows x = new LowerBows();
        due(21, "forget() of none", x.forget(), 0);
        due(20, "seen(0, 0, 0)", x.seen(0, 0, 0), 1);
        due(20, "seen(11, 7, 99)", x.seen(11, 7, 99), 2);
        due(20, "seen(-1, 0, 0)", x.seen(-1, 0, 0), BAD);
        due(20, "seen(12, 0, 0)", x.seen(12, 0, 0), BAD);
        due(20, "seen(0, -1, 0)", x.seen(0, -1, 0), BAD);
        due(20, "seen(0, 8, 0)", x.seen(0, 8, 0), BAD);
        due(20, "seen(0, 0, -1)", x.seen(0, 0, -1), BAD);
        due(20, "seen(0, 0, 100)", x.seen(0, 0, 100), BAD);
        for (int n = 3; n <= 8; n++) {
            due(20, "seen(0, 0, 0)", x.seen(0, 0, 0), n);
        }
        due(20, "a ninth", x.seen(0, 0, 0), FULL);
        due(20, "BAD is ahead of FULL", x.seen(12, 0, 0), BAD);
        due(21, "forget()", x.forget(), 8);
        due(21, "count(7)", x.count(7), 0);
        due(21, "forget() again", x.forget(), 0);
    }

    private static void promise22() {
        LowerBows x = of("o991;o991;o991", "aa;aa;aa");
        x.old(1, 0, 10);
        x.old(1, 0, 20);
        x.old(2, 0, 30);
        due(22, "nothing seen: all", x.never(0), 7);
        due(22, "no umbrellas", x.never(1), 0);
        x.seen(0, 0, 31);
        due(22, "not without the last", x.never(0), 3);
        x.forget();
        x.seen(0, 0, 21);
        due(22, "without the last", x.never(0), 4);
        x.back(0);
        x.forget();
        x.seen(0, 0, 11);
        due(22, "without it the one ahead counts", x.never(0), 2);
        x.forget();
        x.seen(0, 0, 21);
        due(22, "the one ahead never counted", x.never(0), 1);
        x.seen(1, 0, 50);
        due(22, "all that was seen, not one of it", x.never(0), 0);
        x.forget();
        x.seen(0, 7, 0);
        due(22, "one that there is not: never", x.never(0), 0);
        x.forget();
        x.umbrella(0, 0);
        x.umbrella(1, 2);
        x.umbrella(1, 2);
        due(22, "left: nothing seen: all", x.never(1), 7);
        x.seen(0, 0, 0);
        due(22, "left: not that of 0", x.never(1), 6);
        x.forget();
        x.seen(0, 0, 21);
        due(22, "left: that of 0", x.never(1), 1);
        x.forget();
        x.seen(0, 3, 0);
        due(22, "the next behind the last of people: never", x.never(0) + x.never(1), 0);
        x.forget();
        x.seen(0, 0, 0);
        due(22, "with umbrella 0 there is no bow", x.never(0), 3);
        LowerBows y = of("o991;o991", "aa;aa");
        y.old(1, 0, 10);
        y.umbrella(0, 0);
        y.seen(0, 0, 11);
        due(22, "left: with old bow 0", y.never(1), 1);
        due(22, "never(-1)", x.never(-1), BAD);
        due(22, "never(2)", x.never(2), BAD);
    }

    private static void promise23() {
        LowerBows x = of("o991;o991;o991", "a;a;b");
        due(23, "without old bows the least", x.pass(), 0);
        x.old(0, 1, 10);
        x.old(0, 1, 20);
        // without the last 1 bows 11, else 21; 0 bows never, nor does 2
        due(23, "1 tells the two from each other", x.pass(), 1);
        x.seen(0, 1, 11);
        due(23, "one alone is left: the least", x.pass(), 0);
        due(23, "nobody", new LowerBows().pass(), NONE);
        LowerBows alike = of("o991;o991", "");
        for (int i = 0; i < 12; i++) {
            alike.old(7, 6, 1);
        }
        due(23, "twelve alike", alike.pass(), 0);
        // old bows that did not come out as seen do not count
        LowerBows y = of("o991;o991;o991;o991", "a;a;b;b");
        y.old(1, 0, 10);
        y.old(1, 0, 20);
        y.old(3, 2, 10);
        y.old(3, 2, 20);
        due(23, "0 bows 21, 11, 21, 21: like 2", y.pass(), 0);
        y.seen(11, 0, 21);
        due(23, "of 0, 2 and 3 the third alone is told by 2", y.pass(), 2);
    }

    private static void promise24() {
        LowerBows x = of("o991;o991", "aaa;aaa");
        due(24, "nobody is gone, above", x.forgets(5, 11, 0, 0), 0);
        due(24, "nobody is gone, below", x.forgets(5, 11, 0, 1), 1);
        x.old(0, 1, 99);
        due(24, "surely, above", x.forgets(5, 11, 1, 0), 1);
        due(24, "surely, below", x.forgets(5, 11, 1, 1), 1);
        x.umbrella(0, 0);
        due(24, "in hour 0: 5 sixteenths, above", x.forgets(5, 0, 1, 0), 5);
        due(24, "in hour 0: 5 sixteenths, below", x.forgets(5, 0, 1, 1), 16);
        due(24, "4 sixteenths, above", x.forgets(4, 0, 1, 0), 1);
        due(24, "4 sixteenths, below", x.forgets(4, 0, 1, 1), 4);
        due(24, "never forgotten", x.forgets(0, 0, 1, 0), 0);
        due(24, "never forgotten, below", x.forgets(0, 0, 1, 1), 1);
        due(24, "always forgotten", x.forgets(16, 0, 1, 0), 1);
        due(24, "always forgotten, below", x.forgets(16, 0, 1, 1), 1);
        x.umbrella(0, 0);
        due(24, "both forgotten: 25 by 256", x.forgets(5, 0, 1, 0), 25);
        due(24, "both forgotten: 25 by 256, below", x.forgets(5, 0, 1, 1), 256);
        x.umbrella(1, 1);
        // 1 - 231/256 * 11/16 = 1555/4096
        due(24, "one hour or the other, above", x.forgets(5, 1, 1, 0), 1555);
        due(24, "one hour or the other, below", x.forgets(5, 1, 1, 1), 4096);
        LowerBows y = of("o991;o991", "a;a");
        y.old(0, 1, 99);
        for (int i = 0; i < 8; i++) {
            y.umbrella(0, 0);
        }
        due(24, "eight: above", y.forgets(1, 11, 1, 0), 1);
        due(24, "eight: below", y.forgets(1, 11, 1, 1), 1L << 32);
        due(24, "eight: above", y.forgets(15, 11, 1, 0), 2562890625L);
        y.old(1, 0, 99);
        due(24, "0 is gone likewise: above", y.forgets(1, 11, 0, 0), 1);
        due(24, "0 is gone likewise: below", y.forgets(1, 11, 0, 1), 1L << 32);
        int[] wrongC = {-1, 17}, wrongHour = {-1, 12}, wrongPerson = {-1, 2}, wrongWhat = {-1, 2};
        for (int i = 0; i < 2; i++) {
            due(24, "forgets(" + wrongC[i] + ", ..)", y.forgets(wrongC[i], 0, 0, 0), BAD_LONG);
            due(24, "forgets(.., " + wrongHour[i] + ", ..)", y.forgets(0, wrongHour[i], 0, 0), BAD_LONG);
            due(24, "forgets(.., " + wrongPerson[i] + ", ..)", y.forgets(0, 0, wrongPerson[i], 0), BAD_LONG);
            due(24, "forgets(.., " + wrongWhat[i] + ")", y.forgets(0, 0, 0, wrongWhat[i]), BAD_LONG);
        }
    }

    private static void promise25() {
        // the lots of 32768 of seed 1 are 16838, 5758, 10113, 17515, 31051, 5627, 23010, 7419: of 2 people
        // 0 and 0, 1 and 1, 1 and 1, 0 and 1
        LowerBows x = of("o991;o991", "");
        due(25, "one and itself do not meet", x.season(1, 3, 0), 0);
        due(25, "they meet once", x.season(1, 4, 0), 1);
        due(25, "the other one did not bow", x.season(1, 4, 1), 0);
        due(25, "nothing stays of it", x.low(11, 0), 0);
        due(25, "nobody is gone", x.season(1, 4, NONE), 0);
        x.old(1, 0, 99);
        due(25, "nobody yet", x.season(1, 3, NONE), 0);
        due(25, "0 is gone", x.season(1, 4, NONE), 1);
        LowerBows y = of("o991;o991", "aaa;aaa");
        due(25, "bows of the hours count, too", y.season(1, 4, 0), 3);
        due(25, "the fourth bow is in the season", y.season(1, 4, 1), 4);
        LowerBows c = of("o991;c991", "");
        due(25, "not with the clergy", c.season(0, 99, 0), 0);
        LowerBows one = of("o991", "a");
        due(25, "one alone", one.season(0, 99, 0), 0);
        LowerBows z = new LowerBows();
        due(25, "without people", z.season(5, 99, NONE), 0);
        due(25, "season(1, 1, NONE)", x.season(1, 1, NONE), 0);
        due(25, "season(1, 99, NONE)", x.season(1, 99, NONE), 1);
        due(25, "season(0, 0, NONE)", x.season(0, 0, NONE), BAD);
        due(25, "season(0, 100, NONE)", x.season(0, 100, NONE), BAD);
        due(25, "season(0, 1, 2)", x.season(0, 1, 2), BAD);
        due(25, "season(0, 1, -2)", x.season(0, 1, -2), BAD);
        due(25, "any seed", x.season(Integer.MIN_VALUE, 99, NONE) >= 0 ? 1 : 0, 1);
    }

    private static void promise26() {
        LowerBows x = new LowerBows();
        due(26, "sheet(0, 0, 0)", x.sheet(0, 0, 0), 0);
        due(26, "sheet(3, 2, 60)", x.sheet(3, 2, 60), 60);
        due(26, "items are 0 at first", x.get(3, 2, 59), 0);
        x.lay(3, 2, 59, 7);
        due(26, "sheet(4, 0, 0)", x.sheet(4, 0, 0), BAD);
        due(26, "sheet(-1, 0, 0)", x.sheet(-1, 0, 0), BAD);
        due(26, "sheet(0, 3, 0)", x.sheet(0, 3, 0), BAD);
        due(26, "sheet(0, -1, 0)", x.sheet(0, -1, 0), BAD);
        due(26, "sheet(0, 0, 61)", x.sheet(0, 0, 61), BAD);
        due(26, "BAD is ahead of SIZE", x.sheet(4, 0, -1), BAD);
        due(26, "no finding so far", x.count(8), 0);
        due(26, "sheet(3, 2, -1)", x.sheet(3, 2, -1), SIZE);
        due(26, "count(8)", x.count(8), 5);
        due(26, "the row stays", x.get(3, 2, 59), 7);
        due(26, "a new row in its place", x.sheet(3, 1, 60), 60);
        due(26, "is 0 again", x.get(3, 1, 59), 0);
    }

    private static void promise27() {
        LowerBows x = new LowerBows();
        due(27, "lose(0) of a lost one", x.lose(0), NULL);
        due(27, "count(8)", x.count(8), 1);
        x.sheet(0, 1, 33);
        due(27, "lose(0)", x.lose(0), 33);
        due(27, "lose(0) again", x.lose(0), NULL);
        x.sheet(0, 1, 0);
        due(27, "lose(0) of no items", x.lose(0), 0);
        due(27, "lose(-1)", x.lose(-1), BAD);
        due(27, "lose(4)", x.lose(4), BAD);
    }

    private static void promise28And29() {
        int least = Integer.MIN_VALUE;
        LowerBows x = new LowerBows();
        x.sheet(0, 0, 3);
        x.sheet(1, 1, 3);
        x.sheet(2, 2, 3);
        int[] want = {-1, -1, 131071};
        for (int s = 0; s < 3; s++) {
            due(28, "lay(" + s + ", .., 131071)", x.lay(s, s, 1, 131071), 1);
            due(29, "get(" + s + ")", x.get(s, s, 1), want[s]);
            due(28, "lay(" + s + ", .., 384)", x.lay(s, s, 2, 384), 1);
            due(29, "get(" + s + ")", x.get(s, s, 2), s == 0 ? -128 : 384);
            due(29, "those beside stay", x.get(s, s, 0), 0);
        }
        due(28, "lay(4, 0, 0, 0)", x.lay(4, 0, 0, 0), BAD);
        due(28, "lay(-1, 0, 0, 0)", x.lay(-1, 0, 0, 0), BAD);
        due(28, "lay(3, 3, 0, 0): BAD is ahead of NULL", x.lay(3, 3, 0, 0), BAD);
        due(28, "lay(0, -1, 0, 0)", x.lay(0, -1, 0, 0), BAD);
        due(29, "get(4, 0, 0)", x.get(4, 0, 0), least);
        due(29, "get(-1, 0, 0)", x.get(-1, 0, 0), least);
        due(29, "get(0, 3, 0)", x.get(0, 3, 0), least);
        due(29, "get(0, -1, 0)", x.get(0, -1, 0), least);
        due(29, "BAD is no finding", x.count(8), 0);
        due(28, "lay of a lost one", x.lay(3, 0, 0, 0), NULL);
        due(28, "CAST is ahead of INDEX", x.lay(0, 1, 3, 0), CAST);
        due(28, "lay behind the last", x.lay(0, 0, 3, 0), INDEX);
        due(28, "lay ahead of the first", x.lay(0, 0, -1, 0), INDEX);
        due(28, "count(8)", x.count(8), 2);
        due(29, "get of a lost one", x.get(3, 0, 9), least);
        due(29, "count(8): NULL", x.count(8), 1);
        due(29, "get of another form", x.get(0, 2, 9), least);
        due(29, "count(8): CAST", x.count(8), 3);
        due(29, "get behind the last", x.get(0, 0, 3), least);
        due(29, "count(8): INDEX", x.count(8), 2);
        x.lay(2, 2, 0, least);
        due(29, "the least int may be an item", x.get(2, 2, 0), least);
        due(29, "get(.., -1)", x.get(2, 2, -1), least);
    }

    private static void promise30() {
        LowerBows x = new LowerBows();
        layAll(x, 0, 1, 1, 2, 3, 4, 5);
        layAll(x, 1, 1, 9, 9, 9);
        due(30, "copy(0, 3, 1, 1, 2)", x.copy(0, 3, 1, 1, 2), 1);
        due(30, "ahead of it", x.get(1, 1, 0), 9);
        due(30, "the first", x.get(1, 1, 1), 4);
        due(30, "the last", x.get(1, 1, 2), 5);
        due(30, "copy(0, 0, 0, 1, 4): as they were", x.copy(0, 0, 0, 1, 4), 1);
        int[] want = {1, 1, 2, 3, 4};
        for (int i = 0; i < 5; i++) {
            due(30, "item " + i, x.get(0, 1, i), want[i]);
        }
        due(30, "copy(0, 1, 0, 0, 4)", x.copy(0, 1, 0, 0, 4), 1);
        due(30, "item 0", x.get(0, 1, 0), 1);
        due(30, "item 3", x.get(0, 1, 3), 4);
        due(30, "no items at the ends", x.copy(0, 5, 1, 3, 0), 1);
        x.sheet(2, 2, 5);
        int[] s = {-1, 4, 0, 0}, t = {0, 0, -1, 4};
        for (int i = 0; i < 4; i++) {
            due(30, "copy(" + s[i] + ", 0, " + t[i] + ", 0, 1)", x.copy(s[i], 0, t[i], 0, 1), BAD);
        }
        due(30, "BAD is ahead of NULL", x.copy(3, 0, 4, 0, 1), BAD);
        due(30, "from a lost one", x.copy(3, 0, 0, 0, 1), NULL);
        due(30, "to a lost one", x.copy(0, 0, 3, 0, 1), NULL);
        due(30, "NULL is ahead of INDEX", x.copy(0, -1, 3, 0, 1), NULL);
        due(30, "STORE is ahead of INDEX", x.copy(0, -1, 2, 0, 1), STORE);
        due(30, "count(8)", x.count(8), 4);
        due(30, "i below 0", x.copy(0, -1, 1, 0, 1), INDEX);
        due(30, "j below 0", x.copy(0, 0, 1, -1, 1), INDEX);
        due(30, "n below 0", x.copy(0, 0, 1, 0, -1), INDEX);
        due(30, "not so many to take", x.copy(0, 4, 1, 0, 2), INDEX);
        due(30, "no room for so many", x.copy(0, 0, 1, 2, 2), INDEX);
        due(30, "none behind the end", x.copy(0, 6, 1, 0, 0), INDEX);
        due(30, "none behind the end of the other", x.copy(0, 0, 1, 4, 0), INDEX);
        due(30, "a sum that would wrap", x.copy(0, Integer.MAX_VALUE, 1, 0, Integer.MAX_VALUE), INDEX);
        due(30, "a sum that would wrap, j", x.copy(0, 1, 1, Integer.MAX_VALUE, 1), INDEX);
        due(30, "the least n", x.copy(0, 1, 1, 1, Integer.MIN_VALUE), INDEX);
        due(30, "count(8)", x.count(8), 2);
        due(30, "nothing came", x.get(1, 1, 0), 9);
    }

    private static void promise31() {
        LowerBows x = of("o991;o991;o991", "aa;aa;aa");
        layAll(x, 0, 0, 7, 7, 7, 7);
        due(31, "write(0, 0)", x.write(0, 0), 3);
        int[] want = {1, 1, 0, 7};
        for (int i = 0; i < 4; i++) {
            due(31, "item " + i, x.get(0, 0, i), want[i]);
        }
        x.sheet(1, 1, 2);
        due(31, "write(11, 1): two items", x.write(11, 1), 2);
        due(31, "item 1", x.get(1, 1, 1), x.low(11, 1));
        x.sheet(2, 2, 0);
        due(31, "write(11, 2): no items", x.write(11, 2), 0);
        due(31, "write(-1, 0)", x.write(-1, 0), BAD);
        due(31, "write(12, 0)", x.write(12, 0), BAD);
        due(31, "write(0, -1)", x.write(0, -1), BAD);
        due(31, "write(0, 4)", x.write(0, 4), BAD);
        due(31, "BAD is ahead of NULL", x.write(12, 3), BAD);
        due(31, "no finding so far", x.count(8), 0);
        due(31, "write(0, 3)", x.write(0, 3), NULL);
        due(31, "count(8)", x.count(8), 1);
        x.wipe(0);
        due(31, "without people", x.write(0, 0), 0);
    }

    private static void promise32() {
        LowerBows x = of("o991;o991;o991", "aa;aa;aa");
        x.old(0, 1, 5);
        x.umbrella(1, 0);
        x.umbrella(1, 0);
        x.seen(0, 0, 0);
        int[] want = {3, 3, 14, 8, 1, 2, 4, 1, 0};
        for (int what = 0; what <= 8; what++) {
            due(32, "count(" + what + ")", x.count(what), want[what]);
        }
        due(32, "count(-1)", x.count(-1), BAD);
        due(32, "count(9)", x.count(9), BAD);
        tell(x, 0, "!");
        tell(x, 1, ";;");
        due(32, "people with a fault", x.count(0), 0);
        due(32, "its bytes", x.count(2), 15);
        due(32, "walks, one more than ;", x.count(1), 5);
        due(32, "no bows", x.count(6), 0);
        tell(x, 1, "!");
        due(32, "walks with a fault", x.count(1), 0);
        due(32, "its bytes", x.count(3), 11);
        x.wipe(1);
        due(32, "no walks", x.count(1), 0);
        x.type(1, 'a');
        due(32, "one walk", x.count(1), 1);
    }

    private static long digestByCalls(LowerBows x) {
        long h = 17;
        for (int what = 0; what <= 7; what++) {
            h = 31 * h + x.count(what);
        }
        h = 31 * h + x.fault(0);
        h = 31 * h + x.fault(1);
        int people = x.count(0);
        for (int p = 0; p < people; p++) {
            long[] each = {x.person(p, 0), x.person(p, 1), x.person(p, 2), x.low(3, p), x.low(11, p),
                x.owes(5, 0, p), x.ends(p, 1, 0), x.ends(p, 1, 1), x.stroll(p, 2, NONE), x.stroll(p, 2, 0),
                x.forgets(5, 11, p, 0), x.forgets(5, 11, p, 1), x.season(7, 30, p)};
            for (long v : each) {
                h = 31 * h + v;
            }
        }
        for (int hour : new int[] {0, 3, 11}) {
            int[] each = {x.street(hour, 0), x.behind(hour, 0), x.behind(hour, 1), x.rings(hour, 0), x.rings(hour, 1)};
            for (int v : each) {
                h = 31 * h + v;
            }
        }
        int[] last = {x.first(0), x.first(1), x.shade(NONE), x.shade(0), x.never(0), x.never(1), x.pass(),
            x.season(7, 30, NONE)};
        for (int v : last) {
            h = 31 * h + v;
        }
        return h;
    }

    private static void promise33() {
        LowerBows x = new LowerBows();
        due(33, "digest() of a new one", x.digest(), digestByCalls(x));
        tell(x, 0, "o122;p303;c991;o051;p402");
        due(33, "digest() without walks", x.digest(), digestByCalls(x));
        tell(x, 1, "abca;aaaa;aaaa;abaa;aaa");
        due(33, "digest() with walks", x.digest(), digestByCalls(x));
        x.old(0, 1, 3);
        x.old(4, 0, 7);
        x.umbrella(1, 3);
        x.umbrella(2, 0);
        x.seen(0, 4, 8);
        long before = x.digest();
        due(33, "digest() with all", before, digestByCalls(x));
        due(33, "digest() again", x.digest(), before);
        due(33, "digest() changes no finding", x.count(8), 0);
        x.sheet(0, 0, 5);
        x.lose(1);
        due(33, "sheets are not in it", x.digest(), before);
        x.type(1, '!');
        due(33, "digest() with a fault", x.digest(), digestByCalls(x));
        due(33, "it is another one then", x.digest() != before ? 1 : 0, 1);
    }
}
