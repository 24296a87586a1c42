/** Promises 18 and 19: the fewest umbrellas more, and the stroll of one with an errand. */
final class PlanBoundaries extends Bounds {
    private static final String TERMS = "Terms";

    private PlanBoundaries() { }

    static void all() {
        shadeFewest();
        shadeRoom();
        shadeLeastRow();
        shade();
        strollStreets();
        strollErrand();
        strollFewest();
        strollLeastRow();
        stroll();
    }

    private static void shadeDue(String what, LowerBows x, int many, int first, int second) {
        due(what + ", how many", x.shade(NONE), many);
        due(what + ", the 0th", x.shade(0), first);
        due(what + ", the 1st", x.shade(1), second);
    }

    /** 1 is GONE as soon as it meets 0. */
    private static LowerBows deadly(String walks) {
        LowerBows x = tell(crowd(2), 1, walks);
        x.old(0, 1, 99);
        return x;
    }

    private static void shadeFewest() {
        quote(TERMS, "SHADE: the fewest UMBRELLAS more (0 to 2;");
        shadeDue("none is needed", tell(crowd(2), 1, "aa;aa"), 0, NONE, NONE);
        shadeDue("nobody is there", new LowerBows(), 0, NONE, NONE);
        shadeDue("one is needed", deadly("a;a"), 1, 0, NONE);
        shadeDue("two are needed", deadly("aa;aa"), 2, 0, 8);
        shadeDue("three would be needed", deadly("aaa;aaa"), NONE, NONE, NONE);
        LowerBows three = deadly("aaa;aaa");
        three.umbrella(1, 1);
        shadeDue("one of three is told", three, 2, 0, 16);
        three.umbrella(2, 0);
        shadeDue("two of three are told", three, 1, 0, NONE);
        three.umbrella(0, 1);
        shadeDue("all three are told", three, 0, NONE, NONE);
        quote(TERMS, "by which nobody is GONE");
        LowerBows pair = tell(crowd(4), 1, "a;a;b;b");
        pair.old(0, 1, 99);
        pair.old(2, 3, 99);
        shadeDue("two in one HOUR", pair, 2, 0, 2);
        LowerBows beside = tell(crowd(4), 1, "a;b;a;b");
        beside.old(0, 2, 99);
        beside.old(1, 3, 99);
        shadeDue("two in one HOUR, of two neighbours", beside, 2, 0, 1);
        LowerBows threes = tell(crowd(6), 1, "a;a;b;b;c;c");
        threes.old(0, 1, 99);
        threes.old(2, 3, 99);
        threes.old(4, 5, 99);
        shadeDue("three in one HOUR", threes, NONE, NONE, NONE);
        threes.umbrella(0, 3);
        shadeDue("three in one HOUR, one told", threes, 2, 0, 4);
        LowerBows late = deadly("aaaaaaaaaaaa;bbbbbbbbbbba");
        shadeDue("in HOUR 11", late, 1, 88, NONE);
        LowerBows latest = tell(crowd(4), 1, "aaaaaaaaaaaa;bbbbbbbbbbba;ccccccccccce;ddddddddddde");
        latest.old(0, 1, 99);
        latest.old(2, 3, 99);
        shadeDue("two in HOUR 11", latest, 2, 88, 90);
        LowerBows five = tell(crowd(5), 1, "aaaaaaaaaaah;bbbbbbbbbbbh;ccccccccccch;dddddddddddh;eeeeeeeeeeeh");
        for (int a = 0; a < 5; a++) {
            for (int b = a + 1; b < 5; b++) {
                five.old(a, b, 99);
            }
        }
        shadeDue("of five in HOUR 11 all but one would have to hide", five, NONE, NONE, NONE);
        five.umbrella(11, 0);
        five.umbrella(11, 4);
        shadeDue("of three in HOUR 11 all but one", five, 2, 89, 90);
        // 0 repays 3 LOW of what it CAN: hidden in HOUR 0 the bow that is too LOW never comes
        LowerBows early = of("o031;o991", "aaaaa;aaaaa");
        due("0 is GONE in HOUR 4", early.first(0), 4);
        shadeDue("one HOUR less", early, 1, 0, NONE);
    }

    private static void shadeRoom() {
        quote(TERMS, "whatever room there is for them)");
        LowerBows x = deadly("aa;aa");
        for (int n = 1; n <= 8; n++) {
            x.umbrella(11, 7);
            shadeDue("with " + n + " told", x, 2, 0, 8);
        }
        due("none of them stays", x.count(5), 8);
        due("1 is GONE as told", x.behind(11, 0), 2);
    }

    private static void shadeLeastRow() {
        quote(TERMS, "of like ones the least row of numbers (8 times the HOUR, and who; each more than the one ahead)");
        LowerBows last = tell(crowd(8), 1, ";;;;;aaaaaaaaaaah;bbbbbbbbbbbh;ccccccccccch");
        last.old(5, 7, 99);
        last.old(6, 7, 99);
        shadeDue("the greatest number", last, 1, 95, NONE);
        LowerBows other = tell(crowd(3), 1, "b;a;a");
        other.old(1, 2, 99);
        shadeDue("the lesser of two that help", other, 1, 1, NONE);
        LowerBows clergy = of("o991;c991;o991", "a;a;a");
        clergy.old(0, 2, 99);
        shadeDue("with one of the clergy beside it", clergy, 1, 0, NONE);
        LowerBows hidden = tell(crowd(3), 1, "a;a;a");
        hidden.old(0, 2, 99);
        hidden.umbrella(0, 1);
        shadeDue("with one beside it who is not seen", hidden, 1, 0, NONE);
        LowerBows mixed = tell(crowd(4), 1, "ba;bb;aa;ab");
        mixed.old(2, 3, 99);
        mixed.old(0, 2, 99);
        // 2 and 3 meet in HOUR 0, 0 and 2 in HOUR 1: 2 is in both
        shadeDue("2 or 3 in HOUR 0, 0 or 2 in HOUR 1", mixed, 2, 2, 8);
        LowerBows tie = deadly("ab;ab");
        tie.umbrella(0, 1);
        shadeDue("8 times the HOUR", tie, 1, 8, NONE);
        quote(TERMS, "how many; the i-th; NONE.");
        due("how many", deadly("aa;aa").shade(NONE), 2);
        due("the 0th of two", deadly("aa;aa").shade(0), 0);
        due("the 1st of two", deadly("aa;aa").shade(1), 8);
        due("the 1st of one", deadly("a;a").shade(1), NONE);
        due("how many, if none help", deadly("aaa;aaa").shade(NONE), NONE);
        due("the 0th, if none help", deadly("aaa;aaa").shade(0), NONE);
    }

    private static void shade() {
        quote("Promise 18", "SHADE: how many (i = NONE), the i-th (0, 1; NONE); NONE. BAD.");
        for (int i : new int[] {LEAST_INT, -2, 2, 3, Integer.MAX_VALUE}) {
            due("shade(" + i + ")", deadly("aa;aa").shade(i), BAD);
            due("shade(" + i + ") of nobody", new LowerBows().shade(i), BAD);
        }
        shadeDue("the last numbers that are taken", deadly("aa;aa"), 2, 0, 8);
    }

    private static void strollDue(String what, LowerBows x, int person, int errand, int gone, int... row) {
        due(what + ", how many are GONE", x.stroll(person, errand, NONE), gone);
        for (int i = 0; i < 3; i++) {
            due(what + ", the STREET in HOUR " + i, x.stroll(person, errand, i), row[i]);
        }
    }

    private static void strollStreets() {
        quote(TERMS, "STROLL of one, with an errand in a STREET: STREETS (0 to 7; 8: at home) for it in HOURS 0 to 2, in place of its WALK in these");
        strollDue("the first STREET", crowd(1), 0, 0, 0, 0, 0, 0);
        strollDue("the last STREET", crowd(1), 0, 7, 0, 0, 0, 7);
        due("no errand at home", crowd(1).stroll(0, 8, NONE), BAD);
        due("no errand below the first", crowd(1).stroll(0, -1, NONE), BAD);
        // seven others leave one STREET free in each HOUR: it is as good as home, and less than 8
        LowerBows seven = of("o001;o991;o991;o991;o991;o991;o991;o991", ";aab;bbc;ccd;dde;eef;ffg;ggh");
        strollDue("the free STREETS: h, h and a", seven, 0, 7, 0, 7, 7, 0);
        due("its WALK in HOUR 2 does not count", deadly("cca;aaa").stroll(0, 1, NONE), 0);
        due("its WALK in HOUR 3 does", deadly("ccca;aaaa").stroll(0, 1, NONE), 1);
        due("in HOUR 11, too", deadly("ccccccccccca;aaaaaaaaaaaa").stroll(0, 1, NONE), 1);
        LowerBows told = deadly("aaa;aaa");
        told.stroll(0, 1, NONE);
        due("its WALK stays as told", told.street(0, 0), 0);
        due("1 is GONE as told", told.behind(11, 0), 2);
    }

    private static void strollErrand() {
        quote(TERMS, "one of them at least that of the errand");
        for (int errand = 0; errand <= 7; errand++) {
            strollDue("errand " + errand, crowd(1), 0, errand, 0, 0, 0, errand);
        }
        // 1 is in the errand's STREET in two HOURS: it goes there in the third
        strollDue("in HOUR 0", deadly(";bcc"), 0, 2, 0, 2, 0, 0);
        strollDue("in HOUR 1", deadly(";cbc"), 0, 2, 0, 0, 2, 0);
        strollDue("in HOUR 2", deadly(";ccb"), 0, 2, 0, 0, 0, 2);
        strollDue("not without it, though one is GONE by it", deadly(";ccc"), 0, 2, 1, 0, 0, 2);
        LowerBows hidden = deadly(";ccc");
        hidden.umbrella(1, 0);
        strollDue("where it is not seen", hidden, 0, 2, 0, 0, 2, 0);
    }

    private static void strollFewest() {
        quote(TERMS, "that by which fewest are GONE, of like ones that by which it bows least LOW at most");
        LowerBows low = tell(crowd(2), 1, ";a");
        low.old(1, 0, 50);
        strollDue("it does not bow", low, 0, 0, 0, 1, 0, 0);
        LowerBows once = tell(crowd(2), 1, ";aaa");
        once.old(1, 0, 50);
        strollDue("51 LOW, but not 53", once, 0, 0, 0, 0, 0, 1);
        LowerBows few = tell(crowd(3), 1, ";caa;a");
        few.old(0, 2, 99);
        few.old(1, 0, 98);
        strollDue("99 LOW, so that nobody is GONE", few, 0, 0, 0, 1, 0, 1);
        // 2 and 3 are GONE by 0 in a, 1 alone is in b: one is fewer than two
        LowerBows two = tell(crowd(4), 1, ";bbb;aaa;aaa");
        two.old(0, 1, 99);
        two.old(0, 2, 99);
        two.old(0, 3, 99);
        due("two are GONE by an errand in a", two.stroll(0, 0, NONE), 2);
        due("one is GONE by an errand in b", two.stroll(0, 1, NONE), 1);
        LowerBows others = of("o991;o001;o991", ";aaa;aaa");
        due("others are GONE all the same", others.stroll(0, 1, NONE), 1);
        LowerBows seven = of("o001;o001;o001;o001;o001;o001;o001;o991", "hhha;hhha;hhha;hhha;hhha;hhha;hhha;hhha");
        strollDue("seven are GONE anyway", seven, 7, 7, 7, 0, 0, 7);
        LowerBows lowest = of("o991;o991;o001;o991", "cccd;cccd;e;e");
        lowest.old(1, 0, 98);
        strollDue("one is GONE anyway, and it bows 99 LOW", lowest, 0, 7, 1, 0, 0, 7);
        LowerBows itself = of("o001;o991", ";aaa");
        due("it may be itself", itself.stroll(0, 0, NONE), 1);
    }

    private static void strollLeastRow() {
        quote(TERMS, "of like ones the least row: how many are GONE; the i-th STREET.");
        strollDue("a is taken in HOUR 0", deadly(";a"), 0, 3, 0, 1, 0, 3);
        strollDue("a is taken in HOUR 1", deadly(";ba"), 0, 3, 0, 0, 1, 3);
        strollDue("a and b are taken by two", tell(of("o001;o991;o991", ""), 1, ";aa;bb"), 0, 3, 0, 2, 2, 3);
        strollDue("of the clergy it is where it likes", of("c991;o991", ";aaa"), 0, 0, 0, 0, 0, 0);
        strollDue("the last of eight", crowd(8), 7, 5, 0, 0, 0, 5);
    }

    private static void stroll() {
        quote("Promise 19", "STROLL: how many are GONE (i = NONE), the i-th STREET (0 to 2). BAD.");
        LowerBows x = crowd(2);
        int[][] bad = {{-1, 0, 0}, {2, 0, 0}, {0, -1, 0}, {0, 8, 0}, {0, 0, -2}, {0, 0, 3}, {LEAST_INT, 0, 0},
            {0, Integer.MAX_VALUE, 0}, {0, 0, LEAST_INT}, {0, 0, Integer.MAX_VALUE}};
        for (int[] one : bad) {
            due("stroll(" + one[0] + ", " + one[1] + ", " + one[2] + ")", x.stroll(one[0], one[1], one[2]), BAD);
        }
        due("of nobody", new LowerBows().stroll(0, 0, NONE), BAD);
        due("a ninth of eight", crowd(8).stroll(8, 0, NONE), BAD);
        strollDue("the last numbers that are taken", x, 1, 7, 0, 0, 0, 7);
    }
}
