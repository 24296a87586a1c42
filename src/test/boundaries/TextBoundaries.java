/** Promises 1 to 11: the texts, people, walks, old bows and umbrellas. */
final class TextBoundaries extends Bounds {
    private static final String WHAT = "What it is", TERMS = "Terms";

    private TextBoundaries() { }

    static void all() {
        peopleText();
        peopleNumber();
        peopleBytes();
        calls512();
        walksText();
        walksNumber();
        walksHours();
        faultOfText();
        faultOfTooMany();
        textWithFault();
        oldBows();
        oldBowThatCounts();
        umbrellas();
        newObject();
        type();
        wipe();
        undo();
        fault();
        person();
        street();
        old();
        umbrella();
        back();
        read();
        readThatStops();
    }

    private static void faultDue(int text, String bytes, int want) {
        due("fault(" + text + ") of '" + bytes + "'", tell(new LowerBows(), text, bytes).fault(text), want);
    }

    private static void peopleText() {
        quote(WHAT, "PEOPLE are a text of up to 39 bytes (text 0)");
        LowerBows x = new LowerBows();
        due("bytes at first", x.count(2), 0);
        String eight = "o001;p992;c503;o994;p005;c506;o997;p508";
        for (int i = 0; i < 39; i++) {
            due("byte " + (i + 1), x.type(0, eight.charAt(i)), i + 1);
        }
        due("the fortieth byte", x.type(0, ';'), FULL);
        due("any fortieth byte", x.type(0, 0), FULL);
        due("bytes", x.count(2), 39);
        due("fault(0) of 39", x.fault(0), NONE);
        due("people of 39 bytes", x.count(0), 8);
        due("one byte less", x.undo(0), 38);
        due("there is room again", x.type(0, '1'), 39);
        due("but for one", x.type(0, '1'), FULL);
    }

    private static void peopleNumber() {
        quote(WHAT, "8 at most (0 on), with ; between them");
        for (int n = 0; n <= 8; n++) {
            LowerBows x = crowd(n);
            due("people of " + n, x.count(0), n);
            due("the last of " + n, x.person(n - 1, 1), n == 0 ? BAD : 99);
            due("the next of " + n, x.person(n, 1), BAD);
            due("the first of " + n, x.person(0, 1), n == 0 ? BAD : 99);
        }
        due("person(-1, 1)", crowd(8).person(-1, 1), BAD);
        LowerBows x = of("o012;p345;c678", "");
        due("0 is the first", x.person(0, 1), 1);
        due("1 is behind it", x.person(1, 1), 34);
        due("2 is the last", x.person(2, 1), 67);
        faultDue(0, "o012p345", 4);
        faultDue(0, "o012;;p345", 5);
        faultDue(0, ";o012", 0);
        faultDue(0, "o012;", 5);
        for (int b = 0; b < 256; b++) {
            LowerBows y = tell(new LowerBows(), 0, "o012");
            y.type(0, b);
            due("fault(0) with " + b + " behind one", tell(y, 0, "p345").fault(0), b == ';' ? NONE : 4);
        }
    }

    /** The text o501 with any byte in one of its places. */
    private static void eachByteAt(int place, String taken) {
        for (int b = 0; b < 256; b++) {
            LowerBows x = new LowerBows();
            for (int i = 0; i < 4; i++) {
                x.type(0, i == place ? b : "o501".charAt(i));
            }
            due("fault(0) with " + b + " at " + place, x.fault(0), taken.indexOf(b) >= 0 ? NONE : place);
            due("people with " + b + " at " + place, x.count(0), taken.indexOf(b) >= 0 ? 1 : 0);
        }
    }

    private static void peopleBytes() {
        quote(WHAT, "a letter o (any), p (proud), c (of the clergy)");
        eachByteAt(0, "opc");
        for (int i = 0; i < 3; i++) {
            due("the kind of " + "opc".charAt(i), of("opc".charAt(i) + "501", "").person(0, 0), i);
        }
        quote(WHAT, "two figures, how LOW it CAN bow (00 to 99)");
        eachByteAt(1, "0123456789");
        eachByteAt(2, "0123456789");
        for (int can = 0; can <= 99; can++) {
            due("how LOW it CAN", of("o" + can / 10 + can % 10 + "1", "").person(0, 1), can);
        }
        quote(WHAT, "and a figure, by how much it repays LOWER (1 to 9)");
        eachByteAt(3, "123456789");
        for (int lower = 1; lower <= 9; lower++) {
            due("how much LOWER", of("o50" + lower, "").person(0, 2), lower);
        }
    }

    private static void calls512() {
        quote(WHAT, "An object is used for at most 512 calls after it has been made; what later calls answer is free.");
        LowerBows x = of("o991;p502", "aaa;aaa"), twin = of("o991;p502", "aaa;aaa");
        for (int call = 16; call < 511; call += 2) {
            x.umbrella(1, 1);
            x.back(1);
        }
        x.fault(0);
        due("the 512th call", x.digest(), twin.digest());
        LowerBows y = new LowerBows();
        for (int call = 0; call < 511; call++) {
            y.type(0, call < 4 ? "o501".charAt(call) : -1);
        }
        due("a 512th call behind refusals", y.count(0), 1);
    }

    private static void walksText() {
        quote(TERMS, "WALKS are a text of up to 71 bytes (text 1)");
        LowerBows x = crowd(8);
        due("bytes at first", x.count(3), 0);
        for (int i = 0; i < 71; i++) {
            due("byte " + (i + 1), x.type(1, Coasts.FULL_WALKS.charAt(i)), i + 1);
        }
        due("the 72nd byte", x.type(1, 'a'), FULL);
        due("bytes", x.count(3), 71);
        due("fault(1) of 71", x.fault(1), NONE);
        due("the last byte counts", x.street(7, 7), 1);
        due("nothing is behind it", x.street(8, 7), NONE);
        due("one byte less", x.undo(1), 70);
        due("there is room again", x.type(1, 'h'), 71);
        due("it is the last byte", x.street(7, 7), 7);
        due("but for one", x.type(1, 'h'), FULL);
    }

    private static void walksNumber() {
        quote(TERMS, "8 at most (of PEOPLE 0 on, in their order)");
        LowerBows x = tell(crowd(8), 1, "a;b;c;d;e;f;g;h");
        due("walks", x.count(1), 8);
        for (int p = 0; p < 8; p++) {
            due("the walk of " + p, x.street(0, p), p);
        }
        LowerBows two = tell(crowd(2), 1, "a;b;c;d;e;f;g;h");
        due("eight walks of two people", two.count(1), 8);
        due("the walk of 1", two.street(0, 1), 1);
        due("a walk of nobody", two.street(0, 2), BAD);
        due("walks without people", of("", "a;a").count(1), 2);
        due("nobody meets in them", of("", "a;a").behind(11, 1), 0);
        quote(TERMS, "with ; between them, each perhaps empty");
        due("one ;: two walks", of("", ";").count(1), 2);
        due("eight empty walks", of("", ";;;;;;;").count(1), 8);
        due("they are well", of("", ";;;;;;;").fault(1), NONE);
        due("the first is empty", tell(crowd(2), 1, ";a").street(0, 0), NONE);
        due("the second is not", tell(crowd(2), 1, ";a").street(0, 1), 0);
        LowerBows middle = tell(crowd(3), 1, "b;;c");
        due("ahead of the empty one", middle.street(0, 0), 1);
        due("the empty one", middle.street(0, 1), NONE);
        due("behind the empty one", middle.street(0, 2), 2);
        due("the last is empty", tell(crowd(2), 1, "a;").street(0, 1), NONE);
        due("it is a walk", of("", "a;").count(1), 2);
    }

    private static void walksHours() {
        quote(TERMS, "a letter a to h for each HOUR");
        for (int b = 0; b < 256; b++) {
            LowerBows x = crowd(1);
            x.type(1, 'a');
            x.type(1, b);
            boolean street = b >= 'a' && b <= 'h';
            due("fault(1) with " + b, x.fault(1), street || b == ';' ? NONE : 1);
            due("the street with " + b, x.street(1, 0), street ? b - 'a' : NONE);
        }
        quote(TERMS, "(0 on, 12 at most)");
        LowerBows x = tell(crowd(2), 1, "abcdefghhgfe;efghabcdabcd");
        due("fault(1) of twelve", x.fault(1), NONE);
        due("hour 0", x.street(0, 0), 0);
        due("hour 11", x.street(11, 0), 4);
        due("hour 0 of the second", x.street(0, 1), 4);
        due("hour 11 of the second", x.street(11, 1), 3);
        x.type(1, 'a');
        due("fault(1) of a thirteenth", x.fault(1), 25);
        quote(TERMS, "the STREET (0 to 7) in which it is then");
        LowerBows streets = tell(crowd(1), 1, "abcdefgh");
        for (int hour = 0; hour < 8; hour++) {
            due("the street in hour " + hour, streets.street(hour, 0), hour);
        }
        quote(TERMS, "behind the last one, and without a WALK, it is at home");
        due("behind the last one", streets.street(8, 0), NONE);
        due("in the last hour", streets.street(11, 0), NONE);
        LowerBows home = tell(crowd(3), 1, "a");
        due("without a walk", home.street(0, 1), NONE);
        due("without a walk, in the last hour", home.street(11, 2), NONE);
        due("at home nobody meets", home.behind(11, 1), 0);
        due("not at home, nor with one in a street", tell(crowd(3), 1, "a;ba").behind(11, 1), 0);
    }

    private static void faultOfText() {
        quote(TERMS, "The FAULT of a text is the place of the first byte with which it cannot go on");
        faultDue(0, "x501", 0);
        faultDue(0, "o501;x501", 5);
        faultDue(0, "oxx", 1);
        faultDue(0, "o50x;x", 3);
        faultDue(0, "o001;p002;c003;o994;p995;c996;o507;p50x", 38);
        faultDue(1, "x", 0);
        faultDue(1, "axx", 1);
        faultDue(1, Coasts.FULL_WALKS.substring(0, 70) + "x", 70);
        quote(TERMS, "an empty one is well");
        faultDue(0, "", NONE);
        faultDue(1, "", NONE);
        LowerBows x = of("x", "x");
        x.wipe(0);
        x.undo(1);
        due("emptied again", x.fault(0), NONE);
        due("undone again", x.fault(1), NONE);
        quote(TERMS, "PEOPLE that are not ended: their end");
        String eight = "o001;p992;c503;o994;p005;c506;o997;p508";
        for (int n = 1; n <= 39; n++) {
            faultDue(0, eight.substring(0, n), n % 5 == 4 ? NONE : n);
        }
        for (int n = 1; n <= 71; n++) {
            faultDue(1, Coasts.FULL_WALKS.substring(0, n), NONE);
        }
    }

    private static void faultOfTooMany() {
        quote(TERMS, "here also of a thirteenth HOUR");
        faultDue(1, "abcdefghabcd", NONE);
        faultDue(1, "abcdefghabcda", 12);
        faultDue(1, "abcdefghabcd;", NONE);
        faultDue(1, ";;abcdefghabcd;a", NONE);
        faultDue(1, ";;abcdefghabcdh;a", 14);
        faultDue(1, "abcdefghabcdx", 12);
        faultDue(1, ";;;;;;;abcdefghabcd", NONE);
        faultDue(1, ";;;;;;;abcdefghabcda", 19);
        quote(TERMS, "of an eighth ; of WALKS");
        faultDue(1, ";;;;;;;", NONE);
        faultDue(1, ";;;;;;;;", 7);
        faultDue(1, "a;b;c;d;e;f;g;h", NONE);
        faultDue(1, "a;b;c;d;e;f;g;h;", 15);
        faultDue(1, ";;;;;;;abcdefghabcd;", 19);
        quote(TERMS, "of the first byte of a ninth of PEOPLE");
        // eight of PEOPLE are 39 bytes, so that there is no room for the ninth
        LowerBows x = crowd(8);
        due("a ; behind the eighth", x.type(0, ';'), FULL);
        due("the first byte of a ninth", x.type(0, 'o'), FULL);
        due("fault(0)", x.fault(0), NONE);
        due("people", x.count(0), 8);
    }

    private static void textWithFault() {
        quote(TERMS, "With a FAULT a text is as if it was empty.");
        LowerBows bad = of("o501;o501!", "a;a"), none = of("", "a;a");
        due("people with a fault", bad.count(0), 0);
        due("person(0, 0)", bad.person(0, 0), BAD);
        due("street(0, 0)", bad.street(0, 0), BAD);
        due("low(11, 0)", bad.low(11, 0), BAD);
        due("bows", bad.behind(11, 1), 0);
        due("pass()", bad.pass(), none.pass());
        due("season(1, 9, NONE)", bad.season(1, 9, NONE), 0);
        due("its bytes are there", bad.count(2), 10);
        due("the walks are, too", bad.count(1), 2);
        bad.undo(0);
        due("undone: people", bad.count(0), 2);
        due("undone: bows", bad.behind(11, 1), 1);
        LowerBows walks = of("o501;o501", "a;a!");
        due("walks with a fault", walks.count(1), 0);
        due("all are at home", walks.street(0, 0), NONE);
        due("the other one, too", walks.street(0, 1), NONE);
        due("no bows", walks.behind(11, 1), 0);
        due("people stay", walks.count(0), 2);
        due("its bytes are there", walks.count(3), 4);
        walks.undo(1);
        due("undone: the street", walks.street(0, 1), 0);
        due("undone: bows", walks.behind(11, 1), 1);
        LowerBows thirteen = of("o501;o501", "aaaaaaaaaaaaa;a");
        due("a thirteenth HOUR: all are at home", thirteen.street(0, 0), NONE);
        LowerBows open = of("o501;", "");
        due("people that are not ended are nobody", open.count(0), 0);
    }

    private static void oldBows() {
        quote(TERMS, "OLD bows, 12 at most (0 on)");
        LowerBows x = crowd(2);
        due("at first", x.count(4), 0);
        due("none as bits", x.never(0), 0);
        for (int n = 1; n <= 12; n++) {
            due("old bow " + n, x.old(0, 1, n), n);
            due("as bits from 0 on", x.never(0), (1 << n) - 1);
        }
        due("a thirteenth", x.old(0, 1, 99), FULL);
        due("it does not count", x.owes(0, 1, 0), 13);
        due("how many", x.count(4), 12);
        x.back(0);
        due("there is room again", x.old(1, 0, 98), 12);
        due("it counts", x.owes(0, 0, 1), 99);
        quote(TERMS, "one of PEOPLE (0 to 7) bowed so LOW (1 to 99) to another one");
        for (int who = -1; who <= 8; who++) {
            for (int to = -1; to <= 8; to++) {
                boolean taken = who >= 0 && who <= 7 && to >= 0 && to <= 7 && who != to;
                due("old(" + who + ", " + to + ", 50)", new LowerBows().old(who, to, 50), taken ? 1 : BAD);
            }
        }
        for (int low = -1; low <= 101; low++) {
            LowerBows y = crowd(2);
            boolean taken = low >= 1 && low <= 99;
            due("old(0, 1, " + low + ")", y.old(0, 1, low), taken ? 1 : BAD);
            due("it is repaid", y.owes(0, 1, 0), taken ? low + 1 : 0);
        }
        due("old(0, 1, the greatest)", new LowerBows().old(0, 1, Integer.MAX_VALUE), BAD);
        due("old(0, 1, the least)", new LowerBows().old(0, 1, Integer.MIN_VALUE), BAD);
        LowerBows eight = crowd(8);
        eight.old(7, 0, 99);
        due("0 owes 7", eight.owes(0, 0, 7), 100);
        eight.old(0, 7, 1);
        due("7 owes 0", eight.owes(0, 7, 0), 2);
    }

    private static void oldBowThatCounts() {
        quote(TERMS, "of two of PEOPLE the last told bow counts, whoever bowed");
        LowerBows x = crowd(3);
        x.old(0, 1, 50);
        x.old(1, 0, 9);
        due("the last told, though less low", x.owes(11, 0, 1), 10);
        due("not the one ahead", x.owes(11, 1, 0), 0);
        x.old(0, 1, 3);
        due("the last told is of the other one", x.owes(11, 1, 0), 4);
        due("not the one ahead of it", x.owes(11, 0, 1), 0);
        x.old(0, 1, 2);
        due("the last of one and the same", x.owes(11, 1, 0), 3);
        x.old(1, 2, 70);
        x.old(2, 0, 80);
        due("of two others it is another", x.owes(11, 1, 0), 3);
        due("of 1 and 2", x.owes(11, 2, 1), 71);
        due("of 0 and 2", x.owes(11, 0, 2), 81);
    }

    private static void umbrellas() {
        quote(TERMS, "UMBRELLAS, 8 at most (0 on)");
        LowerBows x = new LowerBows();
        due("at first", x.count(5), 0);
        due("none as bits", x.never(1), 0);
        for (int n = 1; n <= 8; n++) {
            due("umbrella " + n, x.umbrella(n, n - 1), n);
            due("as bits from 0 on", x.never(1), (1 << n) - 1);
        }
        due("a ninth", x.umbrella(0, 0), FULL);
        due("how many", x.count(5), 8);
        x.back(1);
        due("there is room again", x.umbrella(0, 0), 8);
        quote(TERMS, "in an HOUR one of PEOPLE (0 to 7) is not seen");
        for (int hour = -1; hour <= 12; hour++) {
            for (int p = -1; p <= 8; p++) {
                boolean taken = hour >= 0 && hour <= 11 && p >= 0 && p <= 7;
                due("umbrella(" + hour + ", " + p + ")", new LowerBows().umbrella(hour, p), taken ? 1 : BAD);
            }
        }
        for (int hour = 0; hour < 12; hour++) {
            LowerBows y = tell(crowd(2), 1, "aaaaaaaaaaaa;aaaaaaaaaaaa");
            y.umbrella(hour, hour % 2);
            due("ahead of hour " + hour, hour == 0 ? 0 : y.behind(hour - 1, 1), hour);
            due("in hour " + hour, y.behind(hour, 1), hour);
            due("behind hour " + hour, y.behind(11, 1), 11);
        }
        LowerBows seventh = tell(crowd(8), 1, ";;;;;;a;a");
        seventh.umbrella(0, 5);
        due("one who is elsewhere", seventh.behind(0, 1), 1);
        seventh.umbrella(0, 7);
        due("7 is not seen", seventh.behind(0, 1), 0);
        LowerBows two = tell(crowd(4), 1, "a;a;b;b");
        two.umbrella(0, 0);
        two.umbrella(0, 2);
        due("two in one HOUR", two.behind(0, 1), 0);
        two.umbrella(0, 3);
        due("three in one HOUR", two.behind(0, 1), 0);
    }

    private static void newObject() {
        quote("Promise 1", "Nobody, no WALKS; all SHEETS are LOST.");
        LowerBows x = new LowerBows();
        for (int what = 0; what <= 8; what++) {
            due("count(" + what + ")", x.count(what), 0);
        }
        due("person(0, 0)", x.person(0, 0), BAD);
        due("fault(0)", x.fault(0), NONE);
        due("fault(1)", x.fault(1), NONE);
        due("no walks of one who comes", tell(x, 0, "o501").street(0, 0), NONE);
        for (int s = 0; s < 4; s++) {
            due("lose(" + s + ")", new LowerBows().lose(s), NULL);
            due("read(" + s + ")", new LowerBows().read(s), NULL);
        }
        full();
        hold("another object changes nothing in a new one", Autopsy.of(Coasts::fresh).equals(Autopsy.of(() -> {
            full();
            return new LowerBows();
        })));
    }

    private static void type() {
        quote("Promise 2", "A byte (0 to 255) comes behind a text: how many. BAD; FULL.");
        for (int text = 0; text <= 1; text++) {
            LowerBows x = new LowerBows();
            due("type(" + text + ", 0)", x.type(text, 0), 1);
            due("type(" + text + ", 255)", x.type(text, 255), 2);
            due("type(" + text + ", -1)", x.type(text, -1), BAD);
            due("type(" + text + ", 256)", x.type(text, 256), BAD);
            due("how many", x.count(2 + text), 2);
            due("the other text has none", x.count(3 - text), 0);
            due("type(" + text + ", 256) is not 0 again", tell(new LowerBows(), 0, "o50").type(text, '1' + 256), BAD);
        }
        due("type(-1, 0)", new LowerBows().type(-1, 0), BAD);
        due("type(2, 0)", new LowerBows().type(2, 0), BAD);
        LowerBows behind = of("o501", "");
        tell(behind, 0, ";p602");
        due("it comes behind", behind.person(1, 1), 60);
        due("BAD ahead of FULL, text 0", full().type(0, 256), BAD);
        due("BAD ahead of FULL, text 1", full().type(1, -1), BAD);
        due("FULL, text 0", full().type(0, 255), FULL);
        due("FULL, text 1", full().type(1, 0), FULL);
    }

    private static void wipe() {
        quote("Promise 3", "A text is empty: how many bytes it had. BAD.");
        due("an empty one, text 0", new LowerBows().wipe(0), 0);
        due("an empty one, text 1", new LowerBows().wipe(1), 0);
        due("one byte", of("o", "").wipe(0), 1);
        LowerBows x = full();
        due("a full one, text 0", x.wipe(0), 39);
        due("text 1 stays", x.count(3), 71);
        due("a full one, text 1", x.wipe(1), 71);
        due("there is room again", x.type(0, 'o'), 1);
        due("there is room again, text 1", x.type(1, 'a'), 1);
        due("nothing is left of it", tell(x, 0, "501").count(0), 1);
        due("a text with a fault", of("!!!", "").wipe(0), 3);
        LowerBows clergy = of("c991;c991", "a;a");
        clergy.wipe(0);
        tell(clergy, 0, "o991;o991");
        due("of the clergy, who was there, neither", clergy.behind(0, 1), 1);
        LowerBows walk = tell(crowd(1), 1, "hh");
        walk.wipe(1);
        tell(walk, 1, "g");
        due("nor a street of the walk that was there", walk.street(1, 0), NONE);
        due("wipe(-1)", x.wipe(-1), BAD);
        due("wipe(2)", x.wipe(2), BAD);
    }

    private static void undo() {
        quote("Promise 4", "The last byte of a text is undone: how many are left. BAD; NOT: it is empty.");
        for (int text = 0; text <= 1; text++) {
            LowerBows x = full();
            for (int left = (text == 0 ? 39 : 71) - 1; left >= 0; left--) {
                due("undo(" + text + ")", x.undo(text), left);
            }
            due("undo(" + text + ") of an empty one", x.undo(text), NOT);
            due("it stays empty", x.count(2 + text), 0);
            due("the other text stays", x.count(3 - text), text == 0 ? 71 : 39);
            due("it takes a byte again", x.type(text, 'c'), 1);
            due("NOT of a new one", new LowerBows().undo(text), NOT);
        }
        due("undo(-1), though it is empty", new LowerBows().undo(-1), BAD);
        due("undo(2), though it is empty", new LowerBows().undo(2), BAD);
        LowerBows y = of("o501;p602", "ab");
        y.undo(1);
        due("the last hour is undone", y.street(1, 0), NONE);
        due("the one ahead is not", y.street(0, 0), 0);
    }

    private static void fault() {
        quote("Promise 5", "The FAULT of a text; NONE. BAD.");
        LowerBows x = of("o5", "aax");
        due("fault(0)", x.fault(0), 2);
        due("fault(1)", x.fault(1), 2);
        due("fault(-1)", x.fault(-1), BAD);
        due("fault(2)", x.fault(2), BAD);
        due("a new one, text 0", new LowerBows().fault(0), NONE);
        due("a new one, text 1", new LowerBows().fault(1), NONE);
        due("a full one, text 0", full().fault(0), NONE);
        due("a full one, text 1", full().fault(1), NONE);
    }

    private static void person() {
        quote("Promise 6", "Its kind (what = 0: 0 o, 1 p, 2 c), how LOW it CAN (1), by how much LOWER (2) of one of PEOPLE. BAD.");
        LowerBows x = of("o001;p999;c505", "");
        int[][] want = {{0, 0, 1}, {1, 99, 9}, {2, 50, 5}};
        for (int p = -1; p <= 3; p++) {
            for (int what = -1; what <= 3; what++) {
                boolean taken = p >= 0 && p < 3 && what >= 0 && what < 3;
                due("person(" + p + ", " + what + ")", x.person(p, what), taken ? want[p][what] : BAD);
            }
        }
        due("the eighth", full().person(7, 1), 25);
        due("a ninth", full().person(8, 1), BAD);
        due("of nobody", new LowerBows().person(0, 0), BAD);
        x.undo(0);
        due("of people who are not ended", x.person(0, 0), BAD);
    }

    private static void street() {
        quote("Promise 7", "In which STREET it is; NONE: at home. BAD.");
        LowerBows x = tell(crowd(2), 1, "a;bbbbbbbbbbbh");
        due("in the first street", x.street(0, 0), 0);
        due("in the last street, in the last hour", x.street(11, 1), 7);
        due("at home", x.street(1, 0), NONE);
        due("street(-1, 0)", x.street(-1, 0), BAD);
        due("street(12, 0)", x.street(12, 0), BAD);
        due("street(12, 1)", x.street(12, 1), BAD);
        due("street(0, -1)", x.street(0, -1), BAD);
        due("street(0, 2)", x.street(0, 2), BAD);
        due("street(0, 8) of eight", full().street(0, 8), BAD);
        due("street(0, 7) of eight", full().street(0, 7), 0);
        due("of nobody", new LowerBows().street(0, 0), BAD);
        x.umbrella(0, 0);
        due("who is not seen is there", x.street(0, 0), 0);
        due("who is of the clergy, too", of("c501", "h").street(0, 0), 7);
        due("who is GONE is there, too", of("o001;o001", "aab;aab").street(2, 0), 1);
    }

    private static void old() {
        quote("Promise 8", "An OLD bow more: how many. BAD: also to itself; FULL.");
        for (int p = 0; p <= 7; p++) {
            due("to itself", new LowerBows().old(p, p, 1), BAD);
        }
        due("a first one", new LowerBows().old(0, 7, 1), 1);
        due("a second one", some().old(7, 0, 99), 3);
        due("FULL", full().old(0, 1, 1), FULL);
        due("to itself ahead of FULL", full().old(0, 0, 1), BAD);
        due("old(8, 0, 1) ahead of FULL", full().old(8, 0, 1), BAD);
        due("old(0, 1, 0) ahead of FULL", full().old(0, 1, 0), BAD);
        due("old(0, 1, 100) ahead of FULL", full().old(0, 1, 100), BAD);
    }

    private static void umbrella() {
        quote("Promise 9", "An UMBRELLA more: how many. BAD; FULL.");
        due("a first one", new LowerBows().umbrella(0, 0), 1);
        due("a second one", some().umbrella(11, 7), 2);
        LowerBows twice = some();
        twice.umbrella(1, 3);
        due("the same once more", twice.count(5), 2);
        due("FULL", full().umbrella(11, 7), FULL);
        due("umbrella(12, 0) ahead of FULL", full().umbrella(12, 0), BAD);
        due("umbrella(-1, 0) ahead of FULL", full().umbrella(-1, 0), BAD);
        due("umbrella(0, 8) ahead of FULL", full().umbrella(0, 8), BAD);
        due("umbrella(0, -1) ahead of FULL", full().umbrella(0, -1), BAD);
    }

    private static void back() {
        quote("Promise 10", "The last OLD bow (what = 0), UMBRELLA (1) is undone: how many are left. BAD; NOT: there is none.");
        LowerBows x = full();
        for (int left = 11; left >= 0; left--) {
            due("back(0)", x.back(0), left);
        }
        due("back(0) of none", x.back(0), NOT);
        due("the umbrellas stay", x.count(5), 8);
        for (int left = 7; left >= 0; left--) {
            due("back(1)", x.back(1), left);
        }
        due("back(1) of none", x.back(1), NOT);
        due("an old bow more", x.old(0, 1, 1), 1);
        due("an umbrella more", x.umbrella(0, 0), 1);
        due("back(-1), though there is none", new LowerBows().back(-1), BAD);
        due("back(2), though there is none", new LowerBows().back(2), BAD);
        due("NOT of a new one", new LowerBows().back(0), NOT);
        LowerBows y = crowd(2);
        y.old(0, 1, 5);
        y.old(1, 0, 6);
        y.back(0);
        due("the one ahead counts again", y.owes(0, 1, 0), 6);
        y.back(0);
        due("none is left", y.owes(0, 0, 1), 1);
    }

    private static void read() {
        quote("Promise 11", "OLD bows from a SHEET: its items, three for each, as many as are whole");
        int[] wholes = {0, 0, 0, 1, 1, 1, 2, 2, 2, 3};
        for (int n = 0; n < wholes.length; n++) {
            for (int form = 0; form < 3; form++) {
                LowerBows x = crowd(2);
                int[] items = new int[n];
                for (int i = 0; i < n; i++) {
                    items[i] = i % 3 == 0 ? 0 : i % 3 == 1 ? 1 : i;
                }
                layAll(x, 3, form, items);
                due("read of " + n + " items", x.read(3), wholes[n]);
                due("old bows of " + n + " items", x.count(4), wholes[n]);
                due("the last one counts", x.owes(0, 1, 0), wholes[n] == 0 ? 0 : 3 * wholes[n]);
                due("the row stays", x.lose(3), n);
            }
        }
        LowerBows y = some();
        due("they come behind those that there are", y.read(0), 1);
        due("how many there are then", y.count(4), 3);
        due("read(-1)", y.read(-1), BAD);
        due("read(4)", y.read(4), BAD);
        due("read of a LOST one", y.read(3), NULL);
        due("count(8)", y.count(8), 1);
        due("BAD ahead of NULL", new LowerBows().read(4), BAD);
        due("read(0), the first", full().read(0), 0);
    }

    private static void readThatStops() {
        quote("Promise 11", "as long as each may be: how many. BAD; NULL.");
        int[][] not = {{-1, 1, 5}, {8, 1, 5}, {1, -1, 5}, {1, 8, 5}, {4, 4, 5}, {0, 1, 0}, {0, 1, 100}, {0, 1, -1}};
        for (int[] one : not) {
            LowerBows x = crowd(8);
            layAll(x, 0, 0, 6, 7, 9, one[0], one[1], one[2], 0, 1, 50);
            due("till " + one[0] + ", " + one[1] + ", " + one[2], x.read(0), 1);
            due("the one ahead of it came", x.owes(0, 7, 6), 10);
            due("the one behind it did not", x.owes(0, 1, 0), 0);
            layAll(x, 0, 0, one[0], one[1], one[2], 0, 1, 50);
            due("none ahead of it", x.read(0), 0);
            due("how many", x.count(4), 1);
        }
        int[][] last = {{0, 7, 1}, {7, 0, 99}};
        for (int[] one : last) {
            LowerBows x = crowd(8);
            layAll(x, 0, 1, one);
            due("that may be", x.read(0), 1);
            due("it is owed", x.owes(0, one[1], one[0]), one[2] + 1);
        }
        int[] sixty = new int[60];
        for (int i = 0; i < 20; i++) {
            sixty[3 * i + 1] = 1;
            sixty[3 * i + 2] = i + 1;
        }
        for (int told = 0; told <= 12; told++) {
            LowerBows x = crowd(2);
            for (int k = 0; k < told; k++) {
                x.old(1, 0, 90);
            }
            layAll(x, 2, 2, sixty);
            due("as long as there is room, with " + told, x.read(2), 12 - told);
            due("old bows then", x.count(4), 12);
            due("the last that came", x.owes(0, 1, 0), told == 12 ? 0 : 12 - told + 1);
        }
    }
}
