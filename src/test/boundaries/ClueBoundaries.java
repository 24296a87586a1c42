/** Promises 20 to 25: what was seen, which old bow never was, who passes next, chances and seasons. */
final class ClueBoundaries extends Bounds {
    private static final String TERMS = "Terms";

    private ClueBoundaries() { }

    static void all() {
        seenNumber();
        seenOfOne();
        neverWas();
        left();
        next();
        chance();
        chanceOfHour();
        fractions();
        lots();
        seasonMeetings();
        seasonCounts();
        seen();
        forget();
        never();
        pass();
        forgets();
        season();
    }

    private static void seenNumber() {
        quote(TERMS, "SEEN, 8 at most");
        LowerBows x = new LowerBows();
        due("at first", x.count(7), 0);
        for (int n = 1; n <= 8; n++) {
            due("seen " + n, x.seen(0, 0, 0), n);
        }
        due("a ninth", x.seen(0, 0, 0), FULL);
        due("how many", x.count(7), 8);
        LowerBows y = crowd(2);
        y.old(0, 1, 5);
        for (int n = 0; n < 8; n++) {
            y.seen(0, 0, 0);
        }
        y.seen(0, 0, 99);
        due("the ninth does not count", y.never(0), 1);
        y.forget();
        due("there is room again", y.seen(0, 0, 99), 1);
        due("it counts", y.never(0), 0);
    }

    private static void seenOfOne() {
        quote(TERMS, "behind an HOUR one of PEOPLE (0 to 7) had bowed so LOW at most (0 to 99; one that there is not: never)");
        for (int p = -1; p <= 8; p++) {
            due("seen(0, " + p + ", 0)", new LowerBows().seen(0, p, 0), p >= 0 && p <= 7 ? 1 : BAD);
        }
        for (int low = -1; low <= 100; low++) {
            due("seen(0, 0, " + low + ")", new LowerBows().seen(0, 0, low), low >= 0 && low <= 99 ? 1 : BAD);
        }
        for (int hour = -1; hour <= 12; hour++) {
            due("seen(" + hour + ", 0, 0)", new LowerBows().seen(hour, 0, 0), hour >= 0 && hour <= 11 ? 1 : BAD);
        }
        // behind HOUR h one of two has bowed h + 1 LOW, if OLD bow 0 is left out, which is of nobody
        for (int hour = 0; hour < 12; hour++) {
            LowerBows x = tell(crowd(2), 1, "aaaaaaaaaaaa;aaaaaaaaaaaa");
            x.old(7, 6, 1);
            x.seen(hour, hour % 2, hour + 1);
            due("behind HOUR " + hour, x.never(0), 1);
            x.seen(hour, hour % 2, hour);
            due("1 less LOW behind HOUR " + hour, x.never(0), 0);
            x.forget();
            x.seen(hour, hour % 2, hour + 2);
            due("1 LOWER behind HOUR " + hour, x.never(0), 0);
        }
        for (int n = 0; n <= 8; n++) {
            for (int p = 0; p < 8; p++) {
                LowerBows x = crowd(n);
                x.old(7, 6, 1);
                x.umbrella(0, 0);
                x.seen(0, p, 0);
                due(p + " of " + n + ": NEVER", x.never(0), p < n ? 1 : 0);
                due(p + " of " + n + ": LEFT", x.never(1), p < n ? 1 : 0);
            }
        }
        LowerBows most = tell(crowd(2), 1, "a;a");
        most.old(1, 0, 98);
        most.old(7, 6, 1);
        most.seen(0, 0, 99);
        due("99 LOW", most.never(0), 2);
    }

    private static void neverWas() {
        quote(TERMS, "NEVER: OLD bows each of which, had it alone not been, makes all that was SEEN come out so, as bits.");
        LowerBows x = tell(crowd(2), 1, "a;a");
        due("no OLD bows", x.never(0), 0);
        x.seen(0, 0, 1);
        due("no OLD bows, though it comes out so", x.never(0), 0);
        x.old(1, 0, 10);
        due("without it 0 bows 1", x.never(0), 1);
        x.old(1, 0, 20);
        due("it alone: without one the other is there", x.never(0), 0);
        x.forget();
        x.seen(0, 0, 11);
        due("without the last the one ahead counts", x.never(0), 2);
        x.forget();
        x.seen(0, 0, 21);
        due("without the one ahead the last counts", x.never(0), 1);
        x.seen(1, 0, 21);
        x.seen(11, 1, 0);
        due("all that was SEEN", x.never(0), 1);
        x.seen(11, 1, 1);
        due("all but one", x.never(0), 0);
        LowerBows hidden = tell(crowd(2), 1, "a;a");
        hidden.old(1, 0, 10);
        hidden.umbrella(0, 0);
        hidden.seen(0, 0, 0);
        due("the UMBRELLAS are as told", hidden.never(0), 1);
        hidden.forget();
        hidden.seen(0, 0, 1);
        due("none of them is left", hidden.never(0), 0);
        LowerBows twelve = crowd(2);
        for (int n = 0; n < 12; n++) {
            twelve.old(7, 6, 1);
        }
        due("twelve, nothing SEEN", twelve.never(0), 4095);
        twelve.seen(11, 1, 0);
        due("twelve, all come out so", twelve.never(0), 4095);
        LowerBows lastOfTwelve = tell(crowd(2), 1, "a;a");
        for (int n = 1; n <= 12; n++) {
            lastOfTwelve.old(1, 0, n);
        }
        lastOfTwelve.seen(0, 0, 12);
        due("the twelfth alone", lastOfTwelve.never(0), 2048);
    }

    private static void left() {
        quote(TERMS, "LEFT: UMBRELLAS likewise.");
        LowerBows x = tell(crowd(2), 1, "a;a");
        due("no UMBRELLAS", x.never(1), 0);
        x.seen(0, 0, 1);
        due("no UMBRELLAS, though it comes out so", x.never(1), 0);
        x.umbrella(0, 0);
        due("without it 0 bows 1", x.never(1), 1);
        x.umbrella(0, 0);
        due("it alone: without one the other is there", x.never(1), 0);
        x.forget();
        x.seen(0, 0, 0);
        due("with the other one nobody bows", x.never(1), 3);
        for (int n = 3; n <= 8; n++) {
            x.umbrella(11, 7);
        }
        due("eight", x.never(1), 255);
        x.forget();
        due("eight, nothing SEEN", x.never(1), 255);
        LowerBows last = tell(crowd(2), 1, "a;a");
        for (int n = 0; n < 7; n++) {
            last.umbrella(11, 7);
        }
        last.umbrella(0, 1);
        last.seen(0, 0, 1);
        due("the eighth alone", last.never(1), 128);
    }

    private static void next() {
        quote(TERMS, "PASS: the one of PEOPLE of whom the greatest number of those OLD bows by which it has bowed alike, at most, behind HOUR 11 is least, of like ones the least; NONE: there is nobody.");
        due("there is nobody", new LowerBows().pass(), NONE);
        due("nobody by a FAULT", of("o501!", "").pass(), NONE);
        due("one alone", crowd(1).pass(), 0);
        due("eight alike, no OLD bows: the least", crowd(8).pass(), 0);
        LowerBows x = tell(crowd(4), 1, "a;a;b;b");
        x.old(2, 3, 10);
        x.old(2, 3, 20);
        // 3 bows 21 or 11; the others bow alike without either
        due("the one who tells them from each other", x.pass(), 3);
        x.seen(11, 3, 11);
        due("of one OLD bow that is left all are alike", x.pass(), 0);
        x.seen(11, 3, 12);
        due("of none, too", x.pass(), 0);
        LowerBows late = tell(crowd(4), 1, "a;a;bbbbbbbbbbbb;aaaaaaaaaaab");
        late.old(2, 3, 10);
        late.old(2, 3, 20);
        due("behind HOUR 11", late.pass(), 3);
        LowerBows tie = tell(crowd(4), 1, "a;a;b;b");
        tie.old(2, 3, 10);
        tie.old(2, 3, 20);
        tie.old(0, 1, 10);
        tie.old(0, 1, 20);
        due("1 and 3 tell one of four each: the least", tie.pass(), 1);
        // without the last of them 7 bows 21, without any other one 22
        LowerBows most = tell(crowd(8), 1, "a;a;b;b;c;c;d;d");
        for (int n = 0; n < 12; n++) {
            most.old(6, 7, 10 + n);
        }
        due("of twelve eleven alike: 7 tells one", most.pass(), 7);
        LowerBows alike = crowd(2);
        for (int n = 0; n < 12; n++) {
            alike.old(7, 6, 1);
        }
        due("of twelve all alike: the least", alike.pass(), 0);
    }

    private static void forgetsDue(String what, LowerBows x, int c, int hour, int person, long above, long below) {
        due(what + ", above", x.forgets(c, hour, person, 0), above);
        due(what + ", below", x.forgets(c, hour, person, 1), below);
    }

    /** 1 is GONE in HOUR 0, unless one of so many UMBRELLAS is not forgotten. */
    private static LowerBows under(int umbrellas) {
        LowerBows x = tell(crowd(2), 1, "a;a");
        x.old(0, 1, 99);
        for (int n = 0; n < umbrellas; n++) {
            x.umbrella(0, n % 2);
        }
        return x;
    }

    private static void chance() {
        quote(TERMS, "FORGET: each UMBRELLA is forgotten by c sixteenths (0 to 16), by itself: the chance that one of PEOPLE is GONE behind an HOUR: a FRACTION.");
        int[] above = {0, 1, 1, 3, 1, 5, 3, 7, 1, 9, 5, 11, 3, 13, 7, 15, 1};
        int[] below = {1, 16, 8, 16, 4, 16, 8, 16, 2, 16, 8, 16, 4, 16, 8, 16, 1};
        for (int c = 0; c <= 16; c++) {
            forgetsDue("by " + c, under(1), c, 11, 1, above[c], below[c]);
            forgetsDue("without an UMBRELLA by " + c, under(0), c, 11, 1, 1, 1);
            forgetsDue("0 is not GONE, by " + c, under(1), c, 11, 0, 0, 1);
        }
        due("by -1", under(1).forgets(-1, 0, 0, 0), BAD_LONG);
        due("by 17", under(1).forgets(17, 0, 0, 0), BAD_LONG);
        forgetsDue("two, by itself each", under(2), 3, 11, 1, 9, 256);
        forgetsDue("eight by 1", under(8), 1, 11, 1, 1, 1L << 32);
        forgetsDue("eight by 15", under(8), 15, 11, 1, 2562890625L, 1L << 32);
        forgetsDue("eight by 0", under(8), 0, 11, 1, 0, 1);
        forgetsDue("eight by 16", under(8), 16, 11, 1, 1, 1);
        forgetsDue("eight by 8", under(8), 8, 11, 1, 1, 256);
        LowerBows zero = of("o001;o991", "a;a");
        zero.umbrella(0, 1);
        forgetsDue("that 0 is GONE", zero, 3, 0, 0, 3, 16);
        LowerBows eighth = tell(crowd(8), 1, ";;;;;;a;a");
        eighth.old(6, 7, 99);
        eighth.umbrella(0, 6);
        forgetsDue("that 7 is GONE", eighth, 3, 0, 7, 3, 16);
        LowerBows hours = tell(crowd(2), 1, "aa;aa");
        hours.old(0, 1, 99);
        hours.umbrella(0, 0);
        hours.umbrella(1, 1);
        forgetsDue("one or the other: 1 less 121 by 256", hours, 5, 11, 1, 135, 256);
        due("nothing is forgotten of it", hours.count(5), 2);
    }

    private static void chanceOfHour() {
        quote(TERMS, "the chance that one of PEOPLE is GONE behind an HOUR");
        for (int hour = 0; hour < 12; hour++) {
            LowerBows x = tell(crowd(2), 1, "aaaaaaaaaaaa;" + "bbbbbbbbbbbb".substring(0, hour) + "a");
            x.old(0, 1, 99);
            x.umbrella(hour, 0);
            if (hour > 0) {
                forgetsDue("ahead of HOUR " + hour, x, 5, hour - 1, 1, 0, 1);
            }
            forgetsDue("behind HOUR " + hour, x, 5, hour, 1, 5, 16);
            forgetsDue("behind HOUR 11", x, 5, 11, 1, 5, 16);
        }
    }

    private static void fractions() {
        quote(TERMS, "FRACTIONS are told in lowest terms, above and below (0 by 1).");
        forgetsDue("0 by 1", under(1), 0, 0, 1, 0, 1);
        forgetsDue("0 by 1, of eight", under(8), 5, 0, 0, 0, 1);
        forgetsDue("16 by 16", under(1), 16, 0, 1, 1, 1);
        forgetsDue("8 by 16", under(1), 8, 0, 1, 1, 2);
        forgetsDue("36 by 256", under(2), 6, 0, 1, 9, 64);
        forgetsDue("25 by 256", under(2), 5, 0, 1, 25, 256);
        forgetsDue("144 by 256", under(2), 12, 0, 1, 9, 16);
    }

    private static int[] lotsOf(int seed, int m, int many) {
        int[] lots = new int[many];
        long state = seed & 0xffffffffL;
        for (int i = 0; i < many; i++) {
            state = (state * 1103515245L + 12345L) & 0xffffffffL;
            lots[i] = (int) (state / 65536L % m);
        }
        return lots;
    }

    private static void lots() {
        quote(TERMS, "LOTS of m: SEED becomes 1103515245 SEED and 12345, as ints that wrap; its upper 16 bits as a number from 0 on, modulo m.");
        int[] edges = {LEAST_INT, LEAST_INT + 1, -65536, -2, -1, 0, 1, 2, 65535, 65536, Integer.MAX_VALUE - 1, Integer.MAX_VALUE};
        for (int m = 1; m <= 8; m++) {
            for (int k = 0; k < 40; k++) {
                int seed = k < edges.length ? edges[k] : 40503 * k * k * k * k;
                LowerBows x = crowd(m);
                int[] lots = lotsOf(seed, m, 2);
                for (int p = 0; p < m; p++) {
                    int low = lots[0] != lots[1] && p == Math.min(lots[0], lots[1]) ? 1 : 0;
                    due("season(" + seed + ", 1, " + p + ") of " + m, x.season(seed, 1, p), low);
                }
            }
        }
        // SEED 0 becomes 12345, whose upper bits are 0, and then -740551042, whose upper bits are 54236
        due("SEED 0 of two: 0 and 0", crowd(2).season(0, 1, 0), 0);
        due("SEED 0 of three: 0 and 2", crowd(3).season(0, 1, 0), 1);
        // SEED 2 becomes -2087924461, whose upper bits are 33676, and then 1495354192, whose upper bits are 22817
        due("SEED 2 of two: 0 and 1", crowd(2).season(2, 1, 0), 1);
        due("SEED 2 of three: 1 and 2", crowd(3).season(2, 1, 1), 1);
        due("SEED 2 of eight: 4 and 1", crowd(8).season(2, 1, 1), 1);
        due("no lots of nobody", new LowerBows().season(0, 99, NONE), 0);
    }

    private static void seasonMeetings() {
        quote(TERMS, "SEASON by a SEED: behind HOUR 11, n times (1 to 99), a LOT of PEOPLE, a LOT of PEOPLE: these two MEET, if they are two, neither of the clergy, neither GONE");
        for (int n = -1; n <= 101; n++) {
            int[] lots = lotsOf(7, 2, 2 * Math.max(n, 0));
            int bows = 0;
            for (int i = 0; i < lots.length; i += 2) {
                bows += lots[i] != lots[i + 1] ? 1 : 0;
            }
            boolean taken = n >= 1 && n <= 99;
            // of two who repay by 1 the n-th bow is n LOW, and 0 bows the odd ones
            due("season(7, " + n + ", 0)", crowd(2).season(7, n, 0), taken ? (bows + 1) / 2 * 2 - (bows > 0 ? 1 : 0) : BAD);
            due("season(7, " + n + ", 1)", crowd(2).season(7, n, 1), taken ? bows / 2 * 2 : BAD);
        }
        due("one alone is not two", crowd(1).season(7, 99, 0), 0);
        due("not with the clergy", of("o991;c991", "").season(7, 99, 0), 0);
        LowerBows clergy = of("c991;o991", "");
        clergy.old(0, 1, 99);
        due("nor by an OLD bow", clergy.season(7, 99, NONE), 0);
        LowerBows gone = of("o001;o991", "a;a");
        due("who is GONE meets nobody", gone.season(7, 99, 1), 0);
        LowerBows hidden = tell(crowd(2), 1, "a;b");
        hidden.umbrella(11, 0);
        hidden.umbrella(0, 1);
        due("whoever is seen, wherever", hidden.season(2, 1, 0), 1);
    }

    private static void seasonCounts() {
        quote(TERMS, "how many are GONE in all; how LOW one of PEOPLE has bowed at most (in HOURS, too).");
        due("nobody", crowd(8).season(7, 99, NONE), 0);
        LowerBows both = of("o001;o991;o991;o011", "a;a;;");
        due("GONE in HOURS", both.season(0, 1, NONE), 1);
        LowerBows deep = of("o001;o001;o001;o001;o001;o001;o001;o991", "a;a;a;a;a;a;a;a");
        due("seven are GONE", deep.season(7, 99, NONE), 7);
        LowerBows season = crowd(2);
        season.old(1, 0, 99);
        due("GONE in the season", season.season(2, 1, NONE), 1);
        due("nobody is GONE as told", season.behind(11, 0), 0);
        LowerBows hours = tell(crowd(2), 1, "a;a");
        hours.old(1, 0, 49);
        due("how LOW in HOURS", hours.season(2, 1, 0), 50);
        due("how LOW in the season", hours.season(2, 1, 1), 51);
        due("nothing stays of it", hours.low(11, 1), 0);
        LowerBows less = tell(crowd(3), 1, "a;;a");
        less.old(2, 0, 49);
        due("1 LOW in the season, but LOWER in HOURS", less.season(3, 1, 0), 50);
    }

    private static void seen() {
        quote("Promise 20", "SEEN more: how many. BAD; FULL.");
        due("a first one", new LowerBows().seen(0, 0, 0), 1);
        due("a second one", some().seen(11, 7, 99), 2);
        due("FULL", full().seen(0, 0, 0), FULL);
        int[][] bad = {{-1, 0, 0}, {12, 0, 0}, {0, -1, 0}, {0, 8, 0}, {0, 0, -1}, {0, 0, 100}, {12, 8, 100},
            {LEAST_INT, 0, 0}, {0, LEAST_INT, 0}, {0, 0, LEAST_INT}, {0, 0, Integer.MAX_VALUE}};
        for (int[] one : bad) {
            due("seen(" + one[0] + ", " + one[1] + ", " + one[2] + ")", new LowerBows().seen(one[0], one[1], one[2]), BAD);
            due("BAD ahead of FULL", full().seen(one[0], one[1], one[2]), BAD);
        }
    }

    private static void forget() {
        quote("Promise 21", "All SEEN are forgotten: how many.");
        due("of none", new LowerBows().forget(), 0);
        due("of one", some().forget(), 1);
        LowerBows x = full();
        due("of eight", x.forget(), 8);
        due("how many are left", x.count(7), 0);
        due("all come out so again", x.never(0), 4095);
        due("once more", x.forget(), 0);
        due("seen again", x.seen(0, 0, 0), 1);
        due("the OLD bows stay", x.count(4), 12);
        due("the UMBRELLAS stay", x.count(5), 8);
    }

    private static void never() {
        quote("Promise 22", "NEVER (what = 0), LEFT (1), as bits. BAD.");
        LowerBows x = crowd(2);
        x.old(0, 1, 5);
        x.umbrella(0, 0);
        x.umbrella(1, 0);
        due("never(0)", x.never(0), 1);
        due("never(1)", x.never(1), 3);
        for (int what : new int[] {LEAST_INT, -1, 2, Integer.MAX_VALUE}) {
            due("never(" + what + ")", x.never(what), BAD);
            due("never(" + what + ") of a new one", new LowerBows().never(what), BAD);
        }
        LowerBows nobody = new LowerBows();
        nobody.old(0, 1, 5);
        due("without people all come out so", nobody.never(0), 1);
        nobody.seen(0, 0, 0);
        due("but nothing that was SEEN of somebody", nobody.never(0), 0);
    }

    private static void pass() {
        quote("Promise 23", "PASS; NONE.");
        due("NONE", new LowerBows().pass(), NONE);
        LowerBows old = new LowerBows();
        old.old(0, 1, 5);
        due("NONE, though there is an OLD bow", old.pass(), NONE);
        due("one", crowd(1).pass(), 0);
    }

    private static void forgets() {
        quote("Promise 24", "FORGET: above, below. BAD. (As the least long.)");
        LowerBows x = under(1);
        due("above", x.forgets(4, 0, 1, 0), 1);
        due("below", x.forgets(4, 0, 1, 1), 4);
        int[][] bad = {{-1, 0, 0, 0}, {17, 0, 0, 0}, {0, -1, 0, 0}, {0, 12, 0, 0}, {0, 0, -1, 0}, {0, 0, 2, 0},
            {0, 0, 0, -1}, {0, 0, 0, 2}, {17, 12, 2, 2}, {LEAST_INT, 0, 0, 0}, {0, 0, 0, Integer.MAX_VALUE}};
        for (int[] one : bad) {
            due("forgets(" + one[0] + ", " + one[1] + ", " + one[2] + ", " + one[3] + ")",
                x.forgets(one[0], one[1], one[2], one[3]), Long.MIN_VALUE + 2);
        }
        due("of nobody", new LowerBows().forgets(0, 0, 0, 0), Long.MIN_VALUE + 2);
        due("the eighth", crowd(8).forgets(16, 11, 7, 1), 1);
        due("a ninth", crowd(8).forgets(16, 11, 8, 1), Long.MIN_VALUE + 2);
    }

    private static void season() {
        quote("Promise 25", "SEASON: how many are GONE (person = NONE), how LOW one has bowed. BAD.");
        LowerBows x = crowd(2);
        int[][] bad = {{0, NONE}, {100, NONE}, {1, -2}, {1, 2}, {0, -2}, {LEAST_INT, 0}, {Integer.MAX_VALUE, 0},
            {1, LEAST_INT}, {1, Integer.MAX_VALUE}};
        for (int[] one : bad) {
            due("season(0, " + one[0] + ", " + one[1] + ")", x.season(0, one[0], one[1]), BAD);
        }
        due("season(0, 1, NONE)", x.season(0, 1, NONE), 0);
        due("season(0, 99, 1), the last", x.season(0, 99, 1) > 0 ? 1 : 0, 1);
        due("of nobody, how many", new LowerBows().season(0, 1, NONE), 0);
        due("of nobody, one", new LowerBows().season(0, 1, 0), BAD);
        due("of nobody, n = 0", new LowerBows().season(0, 0, NONE), BAD);
    }
}
