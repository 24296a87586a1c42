/** Promises 26 to 33: the sheets, their findings, what is counted, and the digest. */
final class SheetBoundaries extends Bounds {
    private static final String TERMS = "Terms";

    private SheetBoundaries() { }

    static void all() {
        sheetsAtFirst();
        forms();
        items();
        findings();
        sheet();
        lose();
        lay();
        layFindings();
        get();
        copy();
        copyOntoItself();
        copyRefusals();
        write();
        count();
        countFindings();
        digestOfNobody();
        digestOfOne();
        digestOfMany();
    }

    private static void sheetsAtFirst() {
        quote(TERMS, "SHEETS 0 .. 3 are LOST (at first) or a row of a FORM");
        for (int s = -1; s <= 4; s++) {
            boolean taken = s >= 0 && s <= 3;
            due("lose(" + s + ") at first", new LowerBows().lose(s), taken ? NULL : BAD);
            due("sheet(" + s + ", 0, 5)", new LowerBows().sheet(s, 0, 5), taken ? 5 : BAD);
            due("read(" + s + ")", new LowerBows().read(s), taken ? NULL : BAD);
            due("write(0, " + s + ")", new LowerBows().write(0, s), taken ? NULL : BAD);
            due("lay(" + s + ", 0, 0, 0)", new LowerBows().lay(s, 0, 0, 0), taken ? NULL : BAD);
            due("copy(" + s + ", 0, 0, 0, 0)", new LowerBows().copy(s, 0, 0, 0, 0), taken ? NULL : BAD);
            due("copy(0, 0, " + s + ", 0, 0)", new LowerBows().copy(0, 0, s, 0, 0), taken ? NULL : BAD);
        }
        for (int s = 0; s <= 3; s++) {
            LowerBows x = new LowerBows();
            x.sheet(s, 1, 7);
            for (int t = 0; t <= 3; t++) {
                due("of SHEET " + s + " alone: " + t, x.lose(t), t == s ? 7 : NULL);
            }
        }
    }

    private static void forms() {
        quote(TERMS, "0 bytes, 1 shorts, 2 ints");
        int[] values = {127, 128, 255, 256, -128, -129, 32767, 32768, 65535, 65536, -32768, -32769, Integer.MAX_VALUE, -1, LEAST_INT + 1};
        for (int v : values) {
            LowerBows x = new LowerBows();
            for (int form = 0; form < 3; form++) {
                layAll(x, form, form, v);
            }
            due(v + " as a byte", x.get(0, 0, 0), (byte) v);
            due(v + " as a short", x.get(1, 1, 0), (short) v);
            due(v + " as an int", x.get(2, 2, 0), v);
        }
        for (int form = -1; form <= 3; form++) {
            due("sheet(0, " + form + ", 1)", new LowerBows().sheet(0, form, 1), form >= 0 && form <= 2 ? 1 : BAD);
        }
    }

    private static void items() {
        quote(TERMS, "of 0 to 60 items (0 at first)");
        for (int n = -2; n <= 62; n++) {
            LowerBows x = new LowerBows();
            due("sheet(3, 2, " + n + ")", x.sheet(3, 2, n), n < 0 ? SIZE : n > 60 ? BAD : n);
            if (n < 0 || n > 60) {
                due("it is LOST as ahead of that", x.lose(3), NULL);
                continue;
            }
            for (int i = 0; i < n; i++) {
                due("item " + i + " of " + n + " at first", x.get(3, 2, i), 0);
            }
            due("item " + n + " of " + n, x.lay(3, 2, n, 1), INDEX);
            due("item -1 of " + n, x.lay(3, 2, -1, 1), INDEX);
            due("how many", x.lose(3), n);
        }
        LowerBows again = full();
        again.sheet(2, 2, 60);
        due("a new row in place of the old one", again.get(2, 2, 59), 0);
        again.lay(2, 2, 59, 9);
        again.sheet(2, 2, 3);
        again.sheet(2, 2, 60);
        due("nothing stays behind a shorter one", again.get(2, 2, 59), 0);
        again.lay(2, 2, 59, 9);
        again.lose(2);
        again.sheet(2, 2, 60);
        due("nothing stays behind a LOST one", again.get(2, 2, 59), 0);
    }

    private static void findingDue(String what, LowerBows x, long got, int number) {
        due(what, got, -10 - number);
        due(what + ", count(8)", x.count(8), number);
    }

    private static void findings() {
        quote(TERMS, "FINDINGS (answers -10 less the number; they change nothing but count() 8): 1 NULL: the SHEET is LOST");
        LowerBows x = some();
        findingDue("read", x, x.read(3), 1);
        x = some();
        findingDue("lose", x, x.lose(3), 1);
        x = some();
        findingDue("lay", x, x.lay(3, 0, 0, 0), 1);
        x = some();
        findingDue("copy from", x, x.copy(3, 0, 0, 0, 0), 1);
        x = some();
        findingDue("copy to", x, x.copy(0, 0, 3, 0, 0), 1);
        x = some();
        findingDue("write", x, x.write(0, 3), 1);
        quote(TERMS, "2 INDEX: there is no such item");
        x = some();
        findingDue("lay below 0", x, x.lay(0, 0, -1, 0), 2);
        x = some();
        findingDue("lay behind the last", x, x.lay(0, 0, 4, 0), 2);
        x = some();
        findingDue("lay in an empty row", x, x.lay(2, 2, 0, 0), 2);
        x = some();
        findingDue("copy", x, x.copy(0, 0, 0, 0, 5), 2);
        quote(TERMS, "3 CAST: it has another FORM");
        for (int form = 1; form <= 2; form++) {
            x = some();
            findingDue("lay as of FORM " + form, x, x.lay(0, form, 0, 0), 3);
        }
        quote(TERMS, "4 STORE: unlike FORMS");
        x = some();
        findingDue("copy of bytes to shorts", x, x.copy(0, 0, 1, 0, 1), 4);
        x = some();
        findingDue("copy of shorts to bytes", x, x.copy(1, 0, 0, 0, 1), 4);
        x = some();
        findingDue("copy of ints to shorts, of no items", x, x.copy(2, 0, 1, 0, 0), 4);
        quote(TERMS, "5 SIZE: below 0");
        x = some();
        findingDue("sheet of -1", x, x.sheet(0, 0, -1), 5);
        x = some();
        findingDue("sheet of the least", x, x.sheet(3, 2, LEAST_INT), 5);
    }

    private static void sheet() {
        quote("Promise 26", "A SHEET is a new row of a FORM with n items: n. BAD: SHEET, FORM, above 60; SIZE.");
        due("no items", new LowerBows().sheet(0, 0, 0), 0);
        due("60 items", new LowerBows().sheet(3, 2, 60), 60);
        int[][] bad = {{-1, 0, 5}, {4, 0, 5}, {0, -1, 5}, {0, 3, 5}, {0, 0, 61}, {0, 0, Integer.MAX_VALUE}, {LEAST_INT, 0, 0},
            {0, LEAST_INT, 0}, {4, 0, -1}, {-1, 0, -1}, {0, 3, -1}, {0, -1, -1}};
        for (int[] one : bad) {
            LowerBows x = some();
            due("sheet(" + one[0] + ", " + one[1] + ", " + one[2] + ")", x.sheet(one[0], one[1], one[2]), BAD);
            due("BAD is no FINDING", x.count(8), 0);
            due("the row stays", x.get(0, 0, 3), 9);
        }
        LowerBows x = some();
        due("SIZE", x.sheet(0, 0, -1), SIZE);
        due("the row stays", x.get(0, 0, 3), 9);
        due("a new row of another FORM", x.sheet(0, 2, 4), 4);
        due("it is of that FORM", x.get(0, 2, 3), 0);
        due("not of the old one", x.lay(0, 0, 3, 1), CAST);
    }

    private static void lose() {
        quote("Promise 27", "It is LOST: how many items it had. BAD; NULL.");
        LowerBows x = full();
        due("60", x.lose(0), 60);
        due("once more", x.lose(0), NULL);
        due("the next one stays", x.get(1, 1, 59), 101);
        due("0 items", some().lose(2), 0);
        due("lose(-1)", x.lose(-1), BAD);
        due("lose(4)", x.lose(4), BAD);
        due("count(8) of NULL", x.count(8), 1);
        due("lose(3), the last", x.lose(3), NULL);
    }

    private static void lay() {
        quote("Promise 28", "Item i, treated as of a FORM, becomes v (the lowest bits that it has): 1. BAD; NULL; CAST; INDEX.");
        LowerBows x = full();
        for (int s = 0; s < 3; s++) {
            due("the first item", x.lay(s, s, 0, 70000), 1);
            due("it is laid", x.get(s, s, 0), s == 0 ? 112 : s == 1 ? 4464 : 70000);
            due("the last item", x.lay(s, s, 59, -70000), 1);
            due("it is laid", x.get(s, s, 59), s == 0 ? -112 : s == 1 ? -4464 : -70000);
            due("the one beside stays", x.get(s, s, 1), 6);
            due("the one ahead of the last stays", x.get(s, s, 58), 0);
        }
        due("no FINDING by it", x.count(8), 3);
    }

    private static void layFindings() {
        int[][] bad = {{-1, 0, 0}, {4, 0, 0}, {0, -1, 0}, {0, 3, 0}, {3, 3, 0}, {3, -1, 99}, {4, 3, -1}, {LEAST_INT, 0, 0}};
        for (int[] one : bad) {
            LowerBows x = full();
            due("lay(" + one[0] + ", " + one[1] + ", " + one[2] + ", 0)", x.lay(one[0], one[1], one[2], 0), BAD);
            due("BAD is no FINDING", x.count(8), 3);
        }
        due("NULL ahead of CAST and INDEX", full().lay(3, 1, 99, 0), NULL);
        due("CAST ahead of INDEX", full().lay(0, 1, 60, 0), CAST);
        due("CAST ahead of INDEX, below 0", full().lay(2, 1, -1, 0), CAST);
        due("INDEX behind the last", full().lay(0, 0, 60, 0), INDEX);
        due("INDEX below 0", full().lay(0, 0, -1, 0), INDEX);
        due("INDEX of the greatest", full().lay(2, 2, Integer.MAX_VALUE, 0), INDEX);
        due("INDEX of the least", full().lay(2, 2, LEAST_INT, 0), INDEX);
    }

    private static void getDue(LowerBows x, int s, int form, int i, int finding) {
        due("get(" + s + ", " + form + ", " + i + ")", x.get(s, form, i), LEAST_INT);
        due("count(8)", x.count(8), finding);
    }

    private static void get() {
        quote("Promise 29", "Item i of it. BAD: the least int; so are NULL, CAST, INDEX (count() 8 tells).");
        LowerBows x = full();
        due("the first", x.get(0, 0, 0), 5);
        due("the last", x.get(2, 2, 59), 102);
        x.sheet(0, 0, -1);
        int[][] bad = {{-1, 0, 0}, {4, 0, 0}, {0, -1, 0}, {0, 3, 0}, {3, 3, 0}, {4, 3, 60}, {LEAST_INT, LEAST_INT, LEAST_INT}};
        for (int[] one : bad) {
            getDue(x, one[0], one[1], one[2], 5);
        }
        getDue(x, 3, 0, 0, 1);
        getDue(x, 0, 1, 0, 3);
        getDue(x, 0, 0, 60, 2);
        getDue(x, 3, 2, 60, 1);
        getDue(x, 0, 2, 60, 3);
        getDue(x, 1, 1, -1, 2);
        getDue(x, 0, 2, -1, 3);
        getDue(x, 2, 2, Integer.MAX_VALUE, 2);
        getDue(x, 2, 2, LEAST_INT, 2);
        x.sheet(0, 0, -1);
        x.lay(2, 2, 0, LEAST_INT);
        due("the least int as an item", x.get(2, 2, 0), LEAST_INT);
        due("is no FINDING", x.count(8), 5);
    }

    private static void rowDue(String what, LowerBows x, int s, int form, int... want) {
        for (int i = 0; i < want.length; i++) {
            due(what + ", item " + i, x.get(s, form, i), want[i]);
        }
    }

    private static void copy() {
        quote("Promise 30", "n items of SHEET s, from i on, come to SHEET t (perhaps s, as they were), from j on: 1.");
        LowerBows x = new LowerBows();
        layAll(x, 0, 2, 1, 2, 3, 4);
        layAll(x, 3, 2, 7, 7, 7);
        due("no items", x.copy(0, 0, 3, 0, 0), 1);
        rowDue("no items", x, 3, 2, 7, 7, 7);
        due("no items, from the end to the end", x.copy(0, 4, 3, 3, 0), 1);
        due("the last to the first", x.copy(0, 3, 3, 0, 1), 1);
        rowDue("the last to the first", x, 3, 2, 4, 7, 7);
        due("the first to the last", x.copy(0, 0, 3, 2, 1), 1);
        rowDue("the first to the last", x, 3, 2, 4, 7, 1);
        due("as many as there are", x.copy(0, 1, 3, 0, 3), 1);
        rowDue("as many as there are", x, 3, 2, 2, 3, 4);
        rowDue("s stays", x, 0, 2, 1, 2, 3, 4);
        LowerBows sixty = full();
        sixty.sheet(3, 0, 60);
        due("sixty", sixty.copy(0, 0, 3, 0, 60), 1);
        due("the last of sixty", sixty.get(3, 0, 59), 100);
        sixty.sheet(3, 0, 0);
        sixty.sheet(2, 0, 0);
        due("of empty rows", sixty.copy(2, 0, 3, 0, 0), 1);
    }

    private static void copyOntoItself() {
        quote("Promise 30", "(perhaps s, as they were)");
        LowerBows x = new LowerBows();
        layAll(x, 1, 1, 1, 2, 3, 4, 5);
        due("onward", x.copy(1, 0, 1, 1, 4), 1);
        rowDue("onward", x, 1, 1, 1, 1, 2, 3, 4);
        layAll(x, 1, 1, 1, 2, 3, 4, 5);
        due("backward", x.copy(1, 1, 1, 0, 4), 1);
        rowDue("backward", x, 1, 1, 2, 3, 4, 5, 5);
        due("in place", x.copy(1, 0, 1, 0, 5), 1);
        rowDue("in place", x, 1, 1, 2, 3, 4, 5, 5);
    }

    private static void copyRefusals() {
        quote("Promise 30", "BAD: the SHEETS; NULL: s, t; STORE; INDEX: below 0, not so many.");
        int[][] bad = {{-1, 0}, {4, 0}, {0, -1}, {0, 4}, {3, 4}, {4, 3}, {LEAST_INT, 0}, {0, Integer.MAX_VALUE}};
        for (int[] one : bad) {
            LowerBows x = full();
            due("copy(" + one[0] + ", -1, " + one[1] + ", 0, 1)", x.copy(one[0], -1, one[1], 0, 1), BAD);
            due("BAD is no FINDING", x.count(8), 3);
        }
        due("NULL: s", full().copy(3, 0, 0, 0, 1), NULL);
        due("NULL: t", full().copy(0, 0, 3, 0, 1), NULL);
        due("NULL: both", full().copy(3, 0, 3, 0, 1), NULL);
        due("NULL ahead of INDEX", full().copy(3, -1, 0, 0, 1), NULL);
        due("NULL ahead of INDEX, t", full().copy(0, 0, 3, 99, -1), NULL);
        for (int form = 0; form < 3; form++) {
            LowerBows lost = full();
            lost.sheet(3, (form + 1) % 3, 5);
            lost.lose(3);
            due("NULL ahead of STORE, t", full().copy(form, 0, 3, 0, 1), NULL);
            due("NULL ahead of STORE, s", full().copy(3, 0, form, 0, 1), NULL);
            due("NULL of one that had another FORM, t", lost.copy(form, 0, 3, 0, 1), NULL);
            due("NULL of one that had another FORM, s", lost.copy(3, 0, form, 0, 1), NULL);
        }
        due("STORE", full().copy(0, 0, 1, 0, 1), STORE);
        due("STORE ahead of INDEX", full().copy(0, -1, 1, 99, -1), STORE);
        int most = Integer.MAX_VALUE;
        int[][] index = {{-1, 0, 1}, {0, -1, 1}, {0, 0, -1}, {LEAST_INT, 0, 1}, {0, LEAST_INT, 1}, {0, 0, LEAST_INT}, {-1, 0, 0},
            {0, -1, 0}, {4, 0, 1}, {3, 0, 2}, {0, 4, 1}, {0, 3, 2}, {0, 0, 5}, {5, 0, 0}, {0, 5, 0}, {most, 0, 1}, {0, most, 1},
            {0, 0, most}, {most, most, most}, {1, 0, most}, {0, 1, most}, {most, 0, LEAST_INT}, {-1, 0, 5}};
        for (int[] one : index) {
            LowerBows x = some();
            due("copy(0, " + one[0] + ", 0, " + one[1] + ", " + one[2] + ")", x.copy(0, one[0], 0, one[1], one[2]), INDEX);
            due("count(8)", x.count(8), 2);
            rowDue("the row stays", x, 0, 0, 0, 1, 5, 9);
        }
    }

    private static void write() {
        quote("Promise 31", "How LOW each has bowed at most behind an HOUR comes to a SHEET from item 0 on, as many as there are items and PEOPLE: how many. BAD; NULL.");
        LowerBows x = tell(crowd(3), 1, "aaa;aaa;");
        for (int n = 0; n <= 5; n++) {
            for (int form = 0; form < 3; form++) {
                int[] sevens = {7, 7, 7, 7, 7};
                layAll(x, 1, form, java.util.Arrays.copyOf(sevens, n));
                due("write(2, 1) of " + n + " items", x.write(2, 1), Math.min(n, 3));
                int[] want = {3, 2, 0, 7, 7};
                rowDue("of " + n + " items", x, 1, form, java.util.Arrays.copyOf(want, n));
            }
        }
        x = tell(crowd(3), 1, "aaa;aaa;");
        x.sheet(0, 0, 60);
        due("write(0, 0)", x.write(0, 0), 3);
        rowDue("behind HOUR 0", x, 0, 0, 1, 0, 0);
        due("write(11, 0)", x.write(11, 0), 3);
        rowDue("behind HOUR 11", x, 0, 0, 3, 2, 0);
        LowerBows eight = full();
        due("eight", eight.write(11, 2), 8);
        due("the eighth", eight.get(2, 2, 7), eight.low(11, 7));
        due("nothing behind it", eight.get(2, 2, 59), 102);
        LowerBows nobody = new LowerBows();
        nobody.sheet(0, 0, 5);
        due("of nobody", nobody.write(0, 0), 0);
        int[][] bad = {{-1, 0}, {12, 0}, {0, -1}, {0, 4}, {12, 3}, {LEAST_INT, 0}, {0, Integer.MAX_VALUE}};
        for (int[] one : bad) {
            due("write(" + one[0] + ", " + one[1] + ")", x.write(one[0], one[1]), BAD);
        }
        due("BAD is no FINDING", x.count(8), 0);
        due("NULL", x.write(0, 3), NULL);
        LowerBows most = tell(crowd(2), 1, "a;a");
        most.old(1, 0, 98);
        most.sheet(0, 0, 1);
        most.write(0, 0);
        due("99 as a byte", most.get(0, 0, 0), 99);
    }

    private static void count() {
        quote("Promise 32", "0 PEOPLE, 1 WALKS (0: none; else one more than there are ;), 2, 3 bytes of texts, 4 OLD bows, 5 UMBRELLAS, 6 bows in all HOURS, 7 SEEN, 8 the number of the latest FINDING (0 before any). BAD.");
        LowerBows x = full();
        int[] want = {8, 8, 39, 71, 12, 8, x.behind(11, 1), 8, 3};
        for (int what = 0; what <= 8; what++) {
            due("count(" + what + ") of a full one", x.count(what), want[what]);
            due("count(" + what + ") of a new one", new LowerBows().count(what), 0);
        }
        for (int what : new int[] {LEAST_INT, -1, 9, Integer.MAX_VALUE}) {
            due("count(" + what + ")", x.count(what), BAD);
        }
        String walks = ";;;;;;;";
        for (int n = 0; n <= 7; n++) {
            due("WALKS with " + n + " ;", of("", walks.substring(0, n)).count(1), n == 0 ? 0 : n + 1);
            due("WALKS with " + n + " ; behind a letter", of("", "a" + walks.substring(0, n)).count(1), n + 1);
        }
        due("WALKS with an eighth ;", of("", walks + ";").count(1), 0);
        LowerBows last = tell(crowd(2), 1, "aaaaaaaaaaac;bbbbbbbbbbbc");
        due("bows in HOUR 11", last.count(6), 1);
    }

    private static void countFindings() {
        quote("Promise 32", "8 the number of the latest FINDING (0 before any)");
        LowerBows x = new LowerBows();
        x.type(0, 256);
        x.undo(0);
        x.sheet(4, 0, 0);
        due("before any", x.count(8), 0);
        x.sheet(0, 0, -1);
        due("SIZE", x.count(8), 5);
        x.sheet(0, 0, 2);
        due("what is taken leaves it", x.count(8), 5);
        x.sheet(1, 1, 2);
        x.copy(0, 0, 1, 0, 1);
        due("STORE", x.count(8), 4);
        x.get(0, 1, 0);
        due("CAST", x.count(8), 3);
        x.lay(0, 0, 2, 0);
        due("INDEX", x.count(8), 2);
        x.lose(2);
        due("NULL", x.count(8), 1);
        x.lose(9);
        due("BAD leaves it", x.count(8), 1);
        x.back(0);
        due("NOT leaves it", x.count(8), 1);
        x.digest();
        due("digest() leaves it", x.count(8), 1);
    }

    private static long digestOf(long... values) {
        long h = 17;
        for (long v : values) {
            h = 31 * h + v;
        }
        return h;
    }

    private static void digestOfNobody() {
        quote("Promise 33", "h is 17; h becomes 31 h and each of: count() 0 to 7; of texts fault()");
        long nobody = digestOf(0, 0, 0, 0, 0, 0, 0, 0, -1, -1, -2, 0, 0, 0, -1, -2, 0, 0, 0, -1, -2, 0, 0, 0, -1,
            -1, -1, 0, -1, 0, 0, -1, 0);
        due("of nobody", new LowerBows().digest(), nobody);
        LowerBows lost = new LowerBows();
        lost.lose(0);
        lost.sheet(1, 1, 60);
        due("neither count() 8 nor SHEETS are in it", lost.digest(), nobody);
        long faults = digestOf(0, 0, 5, 3, 1, 1, 0, 1, 5, 2, -2, 0, 0, 0, -1, -2, 0, 0, 0, -1, -2, 0, 0, 0, -1,
            -1, -1, 0, -1, 0, 0, -1, 0);
        LowerBows bad = of("o501;", "ab!");
        bad.old(0, 1, 5);
        bad.umbrella(0, 1);
        bad.seen(0, 0, 0);
        due("of texts with a FAULT", bad.digest(), faults);
    }

    private static void digestOfOne() {
        quote("Promise 33", "of PEOPLE person() 0 to 2, low(3, it), low(11, it), owes(5, 0, it) (as it is told), ends(it, 1, 0 and 1) (as it is told), stroll(it, 2, NONE and 0), forgets(5, 11, it), above, below, season(7, 30, it)");
        due("of one: owes() and ends() are BAD", of("p509", "h").digest(), digestOf(1, 1, 4, 1, 0, 0, 0, 0, -1, -1,
            1, 50, 9, 0, 0, -2, -2, -2, 0, 0, 0, 1, 0,
            7, 0, 0, 0, -1, -1, 0, 0, 0, -1, -1, 0, 0, 0, -1, -1, -1, 0, -1, 0, 0, 0, 0));
        quote("Promise 33", "of HOURS 0, 3, 11 street(it, 0) (as it is told), behind() 0, 1, rings() 0, 1");
        // 0 bows 1 in HOUR 0, 1 is GONE in HOUR 1; by the stroll 1, 1, 2 person 0 does not bow, by 0, 1, 2 person 1 stays
        due("of two", of("o991;o001", "aab;aa").digest(), digestOf(2, 2, 9, 6, 0, 0, 1, 0, -1, -1,
            0, 99, 1, 1, 1, -2, -1, -1, 0, 1, 0, 1, 1,
            0, 0, 1, 0, 0, 0, -2, -2, 0, 0, 1, 1, 0,
            0, 0, 1, 0, -1, -1, 2, 1, 0, -1, -1, 2, 1, 0, -1, 1, 1, 1, 0, 0, 0, 0, 1));
    }

    private static long digestByCalls(LowerBows x) {
        java.util.List<Long> all = new java.util.ArrayList<>();
        for (int what = 0; what <= 7; what++) {
            all.add((long) x.count(what));
        }
        all.add((long) x.fault(0));
        all.add((long) x.fault(1));
        for (int p = 0; p < x.count(0); p++) {
            long[] each = {x.person(p, 0), x.person(p, 1), x.person(p, 2), x.low(3, p), x.low(11, p), x.owes(5, 0, p),
                x.ends(p, 1, 0), x.ends(p, 1, 1), x.stroll(p, 2, NONE), x.stroll(p, 2, 0), x.forgets(5, 11, p, 0),
                x.forgets(5, 11, p, 1), x.season(7, 30, p)};
            for (long v : each) {
                all.add(v);
            }
        }
        for (int hour : new int[] {0, 3, 11}) {
            long[] each = {x.street(hour, 0), x.behind(hour, 0), x.behind(hour, 1), x.rings(hour, 0), x.rings(hour, 1)};
            for (long v : each) {
                all.add(v);
            }
        }
        long[] last = {x.first(0), x.first(1), x.shade(NONE), x.shade(0), x.never(0), x.never(1), x.pass(), x.season(7, 30, NONE)};
        for (long v : last) {
            all.add(v);
        }
        return digestOf(all.stream().mapToLong(Long::longValue).toArray());
    }

    private static void digestOfMany() {
        quote("Promise 33", "first() 0, 1, shade(NONE), shade(0), never() 0, 1, pass(), season(7, 30, NONE); as longs that wrap.");
        for (int i = 0; i < Coasts.MAKERS.length; i++) {
            due(Coasts.NAMES[i], Coasts.MAKERS[i].make().digest(), digestByCalls(Coasts.MAKERS[i].make()));
        }
        for (int n = 0; n <= 8; n++) {
            LowerBows x = tell(crowd(n), 1, "aaab;aaa;aca;bab");
            x.old(0, 1, 97);
            x.umbrella(0, 1);
            due("of " + n, x.digest(), digestByCalls(x));
            due("once more", x.digest(), digestByCalls(x));
        }
        digestOfUnlike();
    }

    /** Coasts in which neighbouring HOURS, errands and numbers of meetings make a difference. */
    private static void digestOfUnlike() {
        for (int k = 0; k < 40; k++) {
            StringBuilder walks = new StringBuilder();
            for (int i = 0; i < 71; i++) {
                walks.append(i % 9 == 8 ? ';' : (char) ('a' + (i * (k + 3) + i * i * k) % 5 % 3));
            }
            LowerBows x = of("o" + (10 + k) + "2;p303;o051;o" + (99 - k) + "1;p2" + k % 10 + "2;o409;c991;o121", walks.toString());
            x.old(1, 0, 3 + k);
            x.old(0, 3, 5);
            x.old(4, 2, 2);
            x.umbrella(k % 6, k % 5);
            x.umbrella(k % 7, 3);
            x.seen(2, 0, x.low(2, 0));
            due("coast " + k, x.digest(), digestByCalls(x));
        }
        digestOfSeasons();
    }

    private static void digestOfSeasons() {
        // of five 0 and 3 meet for the third time in the 30th meeting, of two 0 and 1 for the 14th time in the 31st
        LowerBows five = crowd(5), two = crowd(2);
        five.old(3, 0, 97);
        two.old(0, 1, 86);
        hold("one meeting less makes a difference", five.season(7, 29, NONE) != five.season(7, 30, NONE));
        hold("one meeting more makes a difference", two.season(7, 31, NONE) != two.season(7, 30, NONE));
        due("of five", five.digest(), digestByCalls(five));
        due("of two", two.digest(), digestByCalls(two));
    }
}
