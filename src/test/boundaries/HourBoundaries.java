/** Promises 12 to 17: who meets whom, who bows how low, who is gone, who owes, when it ends, rings. */
final class HourBoundaries extends Bounds {
    private static final String TERMS = "Terms";

    private HourBoundaries() { }

    static void all() {
        hours();
        meet();
        meetGone();
        pairsInOrder();
        firstBow();
        repaidLower();
        canNot();
        streetInAnHour();
        lowAtMost();
        goneAsBits();
        bowsOfHours();
        owesOfOne();
        firstOfAll();
        endsOfTwo();
        endsNone();
        ringsOfThree();
        low();
        behind();
        owes();
        first();
        ends();
        rings();
    }

    private static void hours() {
        quote(TERMS, "HOURS are 0 to 11.");
        for (int hour : new int[] {LEAST_INT, -1, 0, 11, 12, Integer.MAX_VALUE}) {
            boolean taken = hour == 0 || hour == 11;
            LowerBows x = tell(crowd(2), 1, "h;g");
            x.sheet(0, 0, 5);
            due("street(" + hour + ", 0)", x.street(hour, 0), taken ? (hour == 0 ? 7 : NONE) : BAD);
            due("umbrella(" + hour + ", 0)", x.umbrella(hour, 0), taken ? 1 : BAD);
            due("low(" + hour + ", 0)", x.low(hour, 0), taken ? 0 : BAD);
            due("behind(" + hour + ", 0)", x.behind(hour, 0), taken ? 0 : BAD);
            due("behind(" + hour + ", 1)", x.behind(hour, 1), taken ? 0 : BAD);
            due("owes(" + hour + ", 0, 1)", x.owes(hour, 0, 1), taken ? 1 : BAD);
            due("rings(" + hour + ", 0)", x.rings(hour, 0), taken ? 0 : BAD);
            due("rings(" + hour + ", 1)", x.rings(hour, 1), taken ? NONE : BAD);
            due("seen(" + hour + ", 0, 0)", x.seen(hour, 0, 0), taken ? 1 : BAD);
            due("forgets(5, " + hour + ", 0, 1)", x.forgets(5, hour, 0, 1), taken ? 1 : BAD_LONG);
            due("write(" + hour + ", 0)", x.write(hour, 0), taken ? 2 : BAD);
        }
        LowerBows last = tell(crowd(2), 1, "aaaaaaaaaaac;bbbbbbbbbbbc");
        due("behind HOUR 10", last.behind(10, 1), 0);
        due("in HOUR 11 they meet", last.behind(11, 1), 1);
    }

    private static void meet() {
        quote(TERMS, "In an HOUR two MEET, who are in one STREET, both seen, neither of the clergy, neither GONE (ahead of that, too)");
        for (int a = 0; a < 9; a++) {
            for (int b = 0; b < 9; b++) {
                String one = a == 8 ? "" : "" + (char) ('a' + a), other = b == 8 ? "" : "" + (char) ('a' + b);
                due("bows of " + one + " and " + other, tell(crowd(2), 1, one + ";" + other).behind(0, 1), a == b && a < 8 ? 1 : 0);
            }
        }
        for (int hidden = 0; hidden < 4; hidden++) {
            LowerBows x = tell(crowd(2), 1, "aa;aa");
            for (int p = 0; p < 2; p++) {
                if ((hidden >> p & 1) != 0) {
                    x.umbrella(0, p);
                }
            }
            due("not seen, as bits: " + hidden, x.behind(0, 1), hidden == 0 ? 1 : 0);
            due("in the next hour", x.behind(1, 1), hidden == 0 ? 2 : 1);
        }
        String[] kinds = {"o991;c991", "c991;o991", "c991;c991", "p991;c991", "c991;p991", "o991;o991"};
        for (String kind : kinds) {
            due("bows of " + kind, of(kind, "a;a").behind(11, 1), kind.contains("c") ? 0 : 1);
        }
        LowerBows clergy = of("o991;c991", "aaaaaaaaaaaa;aaaaaaaaaaaa");
        clergy.old(1, 0, 99);
        due("nor with an OLD bow", clergy.behind(11, 0), 0);
        due("all eight in one street: each pair once", tell(crowd(8), 1, "a;a;a;a;a;a;a;a").behind(0, 1), 28);
    }

    private static void meetGone() {
        quote(TERMS, "neither GONE (ahead of that, too)");
        // 0 is GONE by 1, ahead of its meeting with 2
        LowerBows x = of("o501;o991;o991", "aa;aa;aa");
        x.old(1, 0, 50);
        x.old(0, 2, 5);
        due("2 does not bow to one who is GONE in this hour", x.low(0, 2), 0);
        due("nor in the next", x.owes(11, 2, 0), 6);
        due("1 and 2 meet in both", x.behind(1, 1), 2);
        // 2 is GONE by 0, ahead of its meeting with 1
        LowerBows y = of("o991;o991;o501", "a;a;a");
        y.old(0, 2, 50);
        y.old(2, 1, 7);
        due("1 does not bow to the one who is GONE", y.low(0, 1), 0);
        due("0 bows to 1 all the same", y.low(0, 0), 1);
        due("one bow", y.behind(0, 1), 1);
        // 1 is GONE behind its meeting with 0
        LowerBows z = of("o991;o501;o991", "a;a;a");
        z.old(1, 0, 7);
        z.old(2, 1, 50);
        due("ahead of that it meets", z.low(0, 0), 8);
        due("who is GONE", z.behind(0, 0), 2);
        due("bows", z.behind(0, 1), 2);
    }

    private static void pairsInOrder() {
        quote(TERMS, "one pair after the other, first those of the least one, with others in their order");
        int[][] pairs = {{0, 1}, {0, 2}, {0, 3}, {1, 2}, {1, 3}, {2, 3}};
        for (int from = 0; from < pairs.length; from++) {
            LowerBows greater = tell(crowd(4), 1, "a;a;a;a"), lesser = tell(crowd(4), 1, "a;a;a;a");
            for (int k = from; k < pairs.length; k++) {
                greater.old(pairs[k][0], pairs[k][1], 99);
                lesser.old(pairs[k][1], pairs[k][0], 99);
            }
            due("the first who is GONE, from pair " + from, greater.first(1), pairs[from][1]);
            due("the first who is GONE otherwise, from pair " + from, lesser.first(1), pairs[from][0]);
        }
        LowerBows streets = tell(crowd(4), 1, "b;a;a;b");
        streets.old(0, 3, 99);
        streets.old(1, 2, 99);
        due("the pair of the least one, whatever the street", streets.first(1), 3);
        due("both are GONE", streets.behind(0, 0), 12);
    }

    private static void firstBow() {
        quote(TERMS, "If between them there was no bow ahead of that, one bows 1 LOW: who is not proud, if the other one is; else the least.");
        String[] kinds = {"o501;o501", "o501;p501", "p501;o501", "p501;p501", "o509;p509", "p509;o509", "p509;p509", "o019;o001"};
        int[] who = {0, 0, 1, 0, 0, 1, 0, 0};
        for (int i = 0; i < kinds.length; i++) {
            LowerBows x = of(kinds[i], "a;a");
            due("who bows of " + kinds[i], x.low(0, who[i]), 1);
            due("the other one of " + kinds[i], x.low(0, 1 - who[i]), 0);
            x.wipe(1);
            due("ahead of that it is owed", x.owes(0, who[i], 1 - who[i]), 1);
            due("ahead of that the other one owes nothing", x.owes(0, 1 - who[i], who[i]), 0);
        }
        due("who CAN bow 00 is GONE by it", of("o001;o991", "a;a").behind(0, 0), 1);
        due("the other one then, if the first is proud", of("p991;o001", "a;a").behind(0, 0), 2);
        LowerBows old = of("p501;o501", "a;a");
        old.old(1, 0, 1);
        due("an OLD bow is one ahead of that", old.low(0, 0), 3);
    }

    private static void repaidLower() {
        quote(TERMS, "Else that one bows to whom it was bowed last: as LOW as that, and by how much it repays LOWER (who is proud 1 more).");
        for (int lower = 1; lower <= 9; lower++) {
            LowerBows any = of("o991;o99" + lower, "aaa;aaa"), proud = of("o991;p99" + lower, "aaa;aaa");
            due("1 and " + lower, any.low(1, 1), 1 + lower);
            due("1 and " + lower + " and 1 more", proud.low(1, 1), 2 + lower);
            due("and 1 of the first", any.low(2, 0), 2 + lower);
            due("and 1 of the first, behind the proud one", proud.low(2, 0), 3 + lower);
        }
        LowerBows both = of("p999;p999", "aaaa;aaaa");
        int[] lows = {1, 11, 21, 31};
        for (int hour = 0; hour < 4; hour++) {
            due("hour " + hour, both.low(hour, hour % 2), lows[hour]);
        }
        LowerBows three = of("o991;o992;o993", "aab;aba;bab");
        due("1 repays 0 by 2", three.owes(11, 1, 0), 3);
        due("2 repays 0 by 3", three.owes(1, 2, 0), 4);
        due("0 repays 2 by 1", three.owes(11, 0, 2), 5);
    }

    private static void canNot() {
        quote(TERMS, "Who CAN not bow so LOW is GONE from then on, and there is no bow.");
        int[] cans = {0, 1, 2, 50, 98, 99};
        for (int can : cans) {
            String one = "o" + can / 10 + can % 10 + "1";
            for (int old = Math.max(1, can - 2); old <= Math.min(99, can + 1); old++) {
                LowerBows x = of(one + ";o991", "aa;aa");
                x.old(1, 0, old);
                boolean gone = old + 1 > can;
                due("who is GONE by " + (old + 1) + " of " + can, x.behind(0, 0), gone ? 1 : 0);
                due("how many bows", x.behind(0, 1), gone ? 0 : 1);
                due("how LOW", x.low(0, 0), gone ? 0 : old + 1);
                due("what it owes then", x.owes(0, 0, 1), gone ? old + 1 : 0);
                due("from then on", x.behind(11, 0) & 1, gone ? 1 : 0);
            }
        }
        due("1 of 00", of("o001;o991", "a;a").behind(0, 0), 1);
        due("1 of 01", of("o011;o991", "a;a").behind(0, 0), 0);
        due("2 of 01", of("o991;o011", "aa;aa").behind(1, 0), 2);
        due("2 of 02", of("o991;o021", "aa;aa").behind(1, 0), 0);
    }

    private static void streetInAnHour() {
        quote(TERMS, "In an HOUR: in which STREET one of PEOPLE is; NONE: at home.");
        LowerBows x = tell(crowd(8), 1, "a;b;c;d;e;f;g;");
        for (int p = 0; p < 8; p++) {
            due("the street of " + p, x.street(0, p), p < 7 ? p : NONE);
            due("behind its walk", x.street(1, p), NONE);
        }
    }

    private static void lowAtMost() {
        quote(TERMS, "Behind an HOUR: how LOW it has bowed at most in these HOURS (0: not yet)");
        LowerBows x = tell(crowd(3), 1, "baa;ba;a");
        x.old(1, 0, 49);
        due("in the first hour", x.low(0, 0), 50);
        due("not yet", x.low(0, 2), 0);
        x = tell(crowd(3), 1, "bab;ba;aab");
        x.old(1, 0, 49);
        x.old(2, 0, 20);
        due("at most: 21 behind 50", x.low(2, 0), 50);
        due("what follows has not been yet", x.low(0, 1), 0);
        due("behind it it has", x.low(1, 1), 51);
        LowerBows old = crowd(2);
        old.old(0, 1, 99);
        due("an OLD bow is not in these HOURS", old.low(11, 0), 0);
        LowerBows most = tell(crowd(2), 1, "a;a");
        most.old(1, 0, 98);
        due("as LOW as there is", most.low(11, 0), 99);
    }

    private static void goneAsBits() {
        quote(TERMS, "who is GONE, as bits");
        due("nobody", tell(crowd(8), 1, "a;a;a;a;a;a;a;a").behind(11, 0), 0);
        LowerBows x = of("o001;o001;o001;o001;o001;o001;o001;o991", "a;a;a;a;a;a;a;a");
        due("all but the last", x.behind(0, 0), 127);
        LowerBows y = of("o991;o001;o001;o001;o001;o001;o001;o001", "aa;aa;aa;aa;aa;aa;aa;aa");
        due("all but the first and the last", y.behind(0, 0), 126);
        due("all but the first", y.behind(1, 0), 254);
        due("it stays so", y.behind(11, 0), 254);
    }

    private static void bowsOfHours() {
        quote(TERMS, "how many bows there were in these HOURS");
        LowerBows x = tell(crowd(8), 1, "aaaaaaaa;aaaaaaaa;aaaaaaaa;aaaaaaaa;aaaaaaaa;aaaaaaaa;aaaaaaaa;aaaaaaaa");
        for (int hour = 0; hour < 12; hour++) {
            due("bows behind HOUR " + hour, x.behind(hour, 1), 28 * Math.min(hour + 1, 8));
        }
        LowerBows old = crowd(2);
        old.old(0, 1, 5);
        due("OLD ones are none of them", old.behind(11, 1), 0);
        due("none of nobody", new LowerBows().behind(11, 1), 0);
        due("none of one alone", of("o991", "aaaaaaaaaaaa").behind(11, 1), 0);
    }

    private static void owesOfOne() {
        quote(TERMS, "OWES of one to another one: how LOW it would have to bow to it next (perhaps more than it CAN)");
        LowerBows x = of("o991;p009", "");
        x.old(0, 1, 99);
        due("the most that may be owed", x.owes(11, 1, 0), 109);
        LowerBows y = of("o991;o981", "");
        y.old(0, 1, 97);
        due("as LOW as it CAN", y.owes(0, 1, 0), 98);
        y.old(0, 1, 98);
        due("1 more than it CAN", y.owes(0, 1, 0), 99);
        due("the least", of("o001;o991", "").owes(0, 0, 1), 1);
        LowerBows gone = of("o001;o991", "a;a");
        due("who is GONE owes as ahead of that", gone.owes(0, 0, 1), 1);
        quote(TERMS, "0: it is not its turn, or one of both is of the clergy.");
        due("it is not its turn", x.owes(11, 0, 1), 0);
        due("not without a bow, either", of("o991;o991", "").owes(11, 1, 0), 0);
        LowerBows c = of("o991;c991;c991", "");
        c.old(1, 0, 5);
        c.old(0, 2, 5);
        c.old(1, 2, 5);
        int[][] pairs = {{0, 1}, {1, 0}, {0, 2}, {2, 0}, {1, 2}, {2, 1}};
        for (int[] pair : pairs) {
            due("of the clergy: " + pair[0] + " to " + pair[1], c.owes(0, pair[0], pair[1]), 0);
        }
        c.old(0, 1, 6);
        c.old(2, 0, 6);
        c.old(2, 1, 6);
        for (int[] pair : pairs) {
            due("of the clergy, bowed to otherwise: " + pair[0] + " to " + pair[1], c.owes(0, pair[0], pair[1]), 0);
        }
    }

    private static void firstOfAll() {
        quote(TERMS, "FIRST: the HOUR in which one is GONE first; who; NONE.");
        for (int hour = 0; hour < 12; hour++) {
            LowerBows x = tell(crowd(2), 1, "aaaaaaaaaaaa;" + "bbbbbbbbbbbb".substring(0, hour) + "a");
            x.old(0, 1, 99);
            due("the HOUR", x.first(0), hour);
            due("who", x.first(1), 1);
        }
        LowerBows eighth = tell(crowd(8), 1, ";;;;;;a;a");
        eighth.old(6, 7, 99);
        due("the last of people", eighth.first(1), 7);
        LowerBows none = tell(crowd(8), 1, ";;;;;;a;a");
        due("NONE: the HOUR", none.first(0), NONE);
        due("NONE: who", none.first(1), NONE);
        LowerBows two = tell(crowd(4), 1, "ba;b;aa;a");
        two.old(0, 1, 99);
        two.old(2, 3, 99);
        two.old(0, 2, 99);
        due("of three the first", two.first(1), 1);
        due("it stays the first", two.behind(1, 0), 14);
        due("nobody at all", new LowerBows().first(1), NONE);
    }

    private static void endsOfTwo() {
        quote(TERMS, "ENDS of two, behind HOUR 11, did they MEET again and again, nobody else: how many bows more there are, till one is GONE");
        due("none: who CAN 00 is GONE at once", of("o001;o991", "").ends(0, 1, 0), 0);
        due("one, till the other is", of("o991;o001", "").ends(0, 1, 0), 1);
        due("the most", crowd(2).ends(0, 1, 0), 99);
        due("the most of proud ones by 9", of("p999;p999", "").ends(0, 1, 0), 10);
        LowerBows x = tell(crowd(3), 1, "aaaaaaaaaaaa;aaaaaaaaaaaa;aaaaaaaaaaaa");
        due("behind HOUR 11: twelve have been", x.ends(0, 1, 0), 87);
        LowerBows hidden = crowd(3);
        hidden.umbrella(11, 0);
        hidden.old(2, 0, 99);
        due("nobody else, whoever is seen", hidden.ends(0, 1, 0), 99);
        LowerBows old = crowd(2);
        old.old(0, 1, 98);
        due("one more", old.ends(0, 1, 0), 1);
        old.old(0, 1, 99);
        due("none more", old.ends(0, 1, 0), 0);
        due("nothing stays of it", old.behind(11, 0), 0);
        quote(TERMS, "which (0: the first told of both, 1)");
        due("the first told", of("o001;o991", "").ends(0, 1, 1), 0);
        due("the same, told behind", of("o001;o991", "").ends(1, 0, 1), 1);
        due("the other one", of("o991;o001", "").ends(0, 1, 1), 1);
        due("the other one, told ahead", of("o991;o001", "").ends(1, 0, 1), 0);
        due("behind 99 bows", crowd(2).ends(0, 1, 1), 1);
        due("of 7 and 6", crowd(8).ends(7, 6, 1), 0);
    }

    private static void endsNone() {
        quote(TERMS, "NONE: one of both is of the clergy, or GONE.");
        LowerBows c = of("o991;c991;c991", "");
        int[][] pairs = {{0, 1}, {1, 0}, {1, 2}, {2, 1}};
        for (int[] pair : pairs) {
            due("of the clergy, how many", c.ends(pair[0], pair[1], 0), NONE);
            due("of the clergy, which", c.ends(pair[0], pair[1], 1), NONE);
        }
        LowerBows gone = of("o001;o991;o001;o991", "a;a;b;b");
        int[][] lost = {{0, 1}, {1, 0}, {0, 2}, {2, 0}, {1, 2}, {3, 0}};
        for (int[] pair : lost) {
            due("GONE, how many", gone.ends(pair[0], pair[1], 0), NONE);
            due("GONE, which", gone.ends(pair[0], pair[1], 1), NONE);
        }
        due("neither of them", gone.ends(1, 3, 0), 99);
        LowerBows last = tell(crowd(2), 1, "aaaaaaaaaaac;bbbbbbbbbbbc");
        last.old(0, 1, 99);
        due("GONE in HOUR 11", last.ends(0, 1, 0), NONE);
    }

    private static void ringsOfThree() {
        quote(TERMS, "RINGS behind an HOUR: threes of PEOPLE of whom each OWES the next one, round (either way): how many");
        due("of nobody", new LowerBows().rings(0, 0), 0);
        due("of two", crowd(2).rings(0, 0), 0);
        due("of three, not round", crowd(3).rings(0, 0), 0);
        LowerBows x = crowd(3);
        x.old(0, 2, 5);
        due("of three, round", x.rings(0, 0), 1);
        LowerBows back = crowd(3);
        back.old(0, 1, 5);
        back.old(1, 2, 5);
        due("of three, the other way round", back.rings(0, 0), 1);
        back.old(0, 2, 5);
        due("of three, the greater each the lesser", back.rings(0, 0), 0);
        // rings in which one is owed 1, for want of a bow: 2 by 0 and 0 by 1, 1 by 0 and 0 by 2, 2 by 1 and 0 by 2
        String[] kinds = {"p991;p991;o991", "p991;o991;p991", "o991;p991;o991"};
        int[][] bows = {{2, 1}, {1, 2}, {0, 1}};
        for (int i = 0; i < 3; i++) {
            LowerBows proud = of(kinds[i], "");
            due("without a bow, " + kinds[i], proud.rings(0, 0), 0);
            proud.old(bows[i][0], bows[i][1], 5);
            due("with one, " + kinds[i], proud.rings(0, 0), 1);
        }
        LowerBows most = crowd(8);
        int[][] turned = {{0, 5}, {0, 6}, {0, 7}, {1, 6}, {1, 7}, {2, 7}};
        for (int[] pair : turned) {
            most.old(pair[0], pair[1], 1);
        }
        due("the most of eight", most.rings(11, 0), 20);
        LowerBows clergy = of("o991;c991;o991", "");
        clergy.old(0, 2, 5);
        due("not through the clergy", clergy.rings(0, 0), 0);
        LowerBows hour = tell(crowd(3), 1, "ba;b;ca");
        due("not yet behind HOUR 0: 1 owes 0, 1 owes 2", hour.rings(0, 0), 0);
        hour = tell(crowd(3), 1, "ba;c;da");
        due("behind HOUR 0", hour.rings(0, 0), 0);
        due("behind HOUR 1: 2 owes 0", hour.rings(1, 0), 1);
        quote(TERMS, "the least, as 64 times the least, 8 times the middle one and the greatest; NONE.");
        due("none", crowd(8).rings(0, 1), NONE);
        due("of nobody", new LowerBows().rings(0, 1), NONE);
        due("0, 1 and 2", x.rings(0, 1), 10);
        due("the least of twenty: 0, 1 and 5", most.rings(0, 1), 13);
        LowerBows last = crowd(8);
        last.old(5, 7, 1);
        due("5, 6 and 7", last.rings(0, 1), 375);
        due("it is one", last.rings(0, 0), 1);
    }

    private static void low() {
        quote("Promise 12", "How LOW it has bowed at most. BAD.");
        LowerBows x = tell(crowd(2), 1, "aaaaaaaaaaaa;aaaaaaaaaaaa");
        for (int hour = 0; hour < 12; hour++) {
            due("low(" + hour + ", 0)", x.low(hour, 0), hour / 2 * 2 + 1);
            due("low(" + hour + ", 1)", x.low(hour, 1), (hour + 1) / 2 * 2);
        }
        int[][] bad = {{-1, 0}, {12, 0}, {0, -1}, {0, 2}, {12, 2}, {LEAST_INT, 0}, {0, LEAST_INT}, {0, Integer.MAX_VALUE}};
        for (int[] one : bad) {
            due("low(" + one[0] + ", " + one[1] + ")", x.low(one[0], one[1]), BAD);
        }
        due("of nobody", new LowerBows().low(0, 0), BAD);
        due("the eighth", full().low(0, 7) >= 0 ? 1 : 0, 1);
        due("a ninth", full().low(0, 8), BAD);
    }

    private static void behind() {
        quote("Promise 13", "Who is GONE, as bits (what = 0), how many bows there were (1). BAD.");
        LowerBows x = of("o991;o001", "aa;aa");
        due("behind(0, 0)", x.behind(0, 0), 0);
        due("behind(0, 1)", x.behind(0, 1), 1);
        due("behind(11, 0)", x.behind(11, 0), 2);
        due("behind(11, 1)", x.behind(11, 1), 1);
        int[][] bad = {{-1, 0}, {12, 0}, {0, -1}, {0, 2}, {12, 2}, {-1, -1}, {LEAST_INT, 0}, {0, Integer.MAX_VALUE}};
        for (int[] one : bad) {
            due("behind(" + one[0] + ", " + one[1] + ")", x.behind(one[0], one[1]), BAD);
            due("of nobody", new LowerBows().behind(one[0], one[1]), BAD);
        }
    }

    private static void owes() {
        quote("Promise 14", "OWES. BAD: also itself.");
        LowerBows x = crowd(3);
        for (int a = -1; a <= 3; a++) {
            for (int b = -1; b <= 3; b++) {
                boolean taken = a >= 0 && a < 3 && b >= 0 && b < 3 && a != b;
                due("owes(0, " + a + ", " + b + ")", x.owes(0, a, b), taken ? (a < b ? 1 : 0) : BAD);
            }
        }
        due("owes(-1, 0, 1)", x.owes(-1, 0, 1), BAD);
        due("owes(12, 0, 1)", x.owes(12, 0, 1), BAD);
        due("one of the clergy to itself", of("c501", "").owes(0, 0, 0), BAD);
        due("of nobody", new LowerBows().owes(0, 0, 1), BAD);
        due("7 to 6", crowd(8).owes(11, 6, 7), 1);
        due("7 to 8", crowd(8).owes(11, 7, 8), BAD);
    }

    private static void first() {
        quote("Promise 15", "FIRST: the HOUR (what = 0), who (1); NONE. BAD.");
        LowerBows x = of("o991;o001", "aa;aa");
        due("first(0)", x.first(0), 1);
        due("first(1)", x.first(1), 1);
        due("NONE: the HOUR", crowd(8).first(0), NONE);
        due("NONE: who", crowd(8).first(1), NONE);
        for (int what : new int[] {LEAST_INT, -1, 2, Integer.MAX_VALUE}) {
            due("first(" + what + ")", x.first(what), BAD);
            due("first(" + what + ") of nobody", new LowerBows().first(what), BAD);
        }
    }

    private static void ends() {
        quote("Promise 16", "ENDS: how many (what = 0), which (1); NONE. BAD: also itself.");
        LowerBows x = of("o991;o991;c991", "");
        for (int a = -1; a <= 3; a++) {
            for (int b = -1; b <= 3; b++) {
                boolean taken = a >= 0 && a < 3 && b >= 0 && b < 3 && a != b;
                int many = a == 2 || b == 2 ? NONE : 99, which = a == 2 || b == 2 ? NONE : 1 - a;
                due("ends(" + a + ", " + b + ", 0)", x.ends(a, b, 0), taken ? many : BAD);
                due("ends(" + a + ", " + b + ", 1)", x.ends(a, b, 1), taken ? (which == NONE ? NONE : a == 0 ? 1 : 0) : BAD);
                due("ends(" + a + ", " + b + ", 2)", x.ends(a, b, 2), BAD);
                due("ends(" + a + ", " + b + ", -1)", x.ends(a, b, -1), BAD);
            }
        }
        due("of nobody", new LowerBows().ends(0, 1, 0), BAD);
        due("one alone", of("o501", "").ends(0, 1, 0), BAD);
    }

    private static void rings() {
        quote("Promise 17", "RINGS: how many (what = 0), the least (1; NONE). BAD.");
        LowerBows x = crowd(3);
        x.old(0, 2, 5);
        due("rings(0, 0)", x.rings(0, 0), 1);
        due("rings(11, 1)", x.rings(11, 1), 10);
        due("NONE", crowd(3).rings(0, 1), NONE);
        int[][] bad = {{-1, 0}, {12, 0}, {0, -1}, {0, 2}, {12, 2}, {LEAST_INT, 1}, {11, Integer.MAX_VALUE}};
        for (int[] one : bad) {
            due("rings(" + one[0] + ", " + one[1] + ")", x.rings(one[0], one[1]), BAD);
            due("of nobody", new LowerBows().rings(one[0], one[1]), BAD);
        }
    }
}
