/** Objects in the states that the boundary tests look at, made by the same calls each time. */
final class Coasts {
    static final String EIGHT = "o991;o991;o991;o991;o991;o991;o991;o991";
    static final String FULL_WALKS = "abcdefgh;aabbccdd;abababab;ccccaaaa;dabcdabc;aaaabbbb;hgfedcba;aabbaabb";

    interface Maker {
        LowerBows make();
    }

    interface Call {
        long on(LowerBows x);
    }

    private Coasts() { }

    static LowerBows tell(LowerBows x, int text, String bytes) {
        for (int i = 0; i < bytes.length(); i++) {
            x.type(text, bytes.charAt(i));
        }
        return x;
    }

    static LowerBows of(String people, String walks) {
        return tell(tell(new LowerBows(), 0, people), 1, walks);
    }

    /** So many of people who can bow 99 low and repay by 1, without walks. */
    static LowerBows crowd(int people) {
        return of(EIGHT.substring(0, Math.max(0, 5 * people - 1)), "");
    }

    static void layAll(LowerBows x, int s, int form, int... items) {
        x.sheet(s, form, items.length);
        for (int i = 0; i < items.length; i++) {
            x.lay(s, form, i, items[i]);
        }
    }

    static LowerBows fresh() {
        return new LowerBows();
    }

    /** Something of everything, and room for more. */
    static LowerBows some() {
        LowerBows x = of("o122;p303;c991;o051", "abca;aaaa;aaaa;abaa");
        x.old(0, 1, 3);
        x.old(3, 0, 4);
        x.umbrella(1, 3);
        x.seen(11, 3, x.low(11, 3));
        layAll(x, 0, 0, 0, 1, 5, 9);
        layAll(x, 1, 1, -300, 300);
        x.sheet(2, 2, 0);
        return x;
    }

    /** As much of everything as there may be; SHEET 3 is LOST, and the latest FINDING is CAST. */
    static LowerBows full() {
        LowerBows x = of("o122;p303;c991;o051;p402;o999;o001;p259", FULL_WALKS);
        for (int i = 0; i < 12; i++) {
            x.old(i % 8, (i + 3) % 8, 1 + 3 * i);
        }
        for (int i = 0; i < 8; i++) {
            x.umbrella(i, (3 * i) % 8);
        }
        // as it is, so that a SEEN that is not as told would show in NEVER, whose first four OLD bows do not count
        for (int i = 0; i < 8; i++) {
            x.seen(i, i, x.low(i, i));
        }
        for (int s = 0; s < 3; s++) {
            x.sheet(s, s, 60);
            x.lay(s, s, 0, 5);
            x.lay(s, s, 1, 6);
            x.lay(s, s, 2, 7);
            x.lay(s, s, 59, 100 + s);
        }
        x.get(0, 1, 0);
        return x;
    }

    /** Both texts have a FAULT. */
    static LowerBows faulty() {
        LowerBows x = some();
        x.type(0, '!');
        x.type(1, '!');
        x.sheet(0, 0, -1);
        return x;
    }

    static final String[] NAMES = {"a new one", "some of each", "all that there may be", "texts with a FAULT"};
    static final Maker[] MAKERS = {Coasts::fresh, Coasts::some, Coasts::full, Coasts::faulty};
}
