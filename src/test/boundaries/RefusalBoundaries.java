/** The paragraph on refusals: for each act each number that is not as told, in each state, and that nothing changes. */
final class RefusalBoundaries extends Bounds {
    private static final String TERMS = "Terms";
    /** Stands for the number of the last of PEOPLE, and for a number without a bound. */
    private static final int LAST = 1000, ANY = 1001;

    private interface Taker {
        long on(LowerBows x, int[] v);
    }

    /** An act, the least and the most that each of its numbers may be, numbers that are as told, and its BAD. */
    private record Act(String name, int[] least, int[] most, int[] told, long bad, Taker taker) { }

    private RefusalBoundaries() { }

    static void all() {
        numbersNotAsTold();
        selves();
        orders();
        refusalsChangeNothing();
        findingsChangeCount8();
        refusalOfLong();
    }

    private static int[] row(int... v) {
        return v;
    }

    private static Act act(String name, int[] least, int[] most, int[] told, Taker taker) {
        return new Act(name, least, most, told, BAD, taker);
    }

    private static Act[] acts() {
        return new Act[] {
            act("type", row(0, 0), row(1, 255), row(0, 111), (x, v) -> x.type(v[0], v[1])),
            act("wipe", row(0), row(1), row(0), (x, v) -> x.wipe(v[0])),
            act("undo", row(0), row(1), row(0), (x, v) -> x.undo(v[0])),
            act("fault", row(0), row(1), row(0), (x, v) -> x.fault(v[0])),
            act("person", row(0, 0), row(LAST, 2), row(0, 0), (x, v) -> x.person(v[0], v[1])),
            act("street", row(0, 0), row(11, LAST), row(0, 0), (x, v) -> x.street(v[0], v[1])),
            act("old", row(0, 0, 1), row(7, 7, 99), row(2, 3, 50), (x, v) -> x.old(v[0], v[1], v[2])),
            act("umbrella", row(0, 0), row(11, 7), row(5, 5), (x, v) -> x.umbrella(v[0], v[1])),
            act("back", row(0), row(1), row(0), (x, v) -> x.back(v[0])),
            act("read", row(0), row(3), row(3), (x, v) -> x.read(v[0])),
            act("low", row(0, 0), row(11, LAST), row(5, 1), (x, v) -> x.low(v[0], v[1])),
            act("behind", row(0, 0), row(11, 1), row(5, 1), (x, v) -> x.behind(v[0], v[1])),
            act("owes", row(0, 0, 0), row(11, LAST, LAST), row(5, 1, 2), (x, v) -> x.owes(v[0], v[1], v[2])),
            act("first", row(0), row(1), row(0), (x, v) -> x.first(v[0])),
            act("ends", row(0, 0, 0), row(LAST, LAST, 1), row(1, 2, 0), (x, v) -> x.ends(v[0], v[1], v[2])),
            act("rings", row(0, 0), row(11, 1), row(5, 0), (x, v) -> x.rings(v[0], v[1])),
            act("shade", row(NONE), row(1), row(0), (x, v) -> x.shade(v[0])),
            act("stroll", row(0, 0, NONE), row(LAST, 7, 2), row(1, 3, 0), (x, v) -> x.stroll(v[0], v[1], v[2])),
            act("seen", row(0, 0, 0), row(11, 7, 99), row(5, 5, 50), (x, v) -> x.seen(v[0], v[1], v[2])),
            act("never", row(0), row(1), row(0), (x, v) -> x.never(v[0])),
            new Act("forgets", row(0, 0, 0, 0), row(16, 11, LAST, 1), row(5, 5, 1, 0), BAD_LONG,
                (x, v) -> x.forgets(v[0], v[1], v[2], v[3])),
            act("season", row(ANY, 1, NONE), row(ANY, 99, LAST), row(7, 30, 0), (x, v) -> x.season(v[0], v[1], v[2])),
            act("sheet", row(0, 0, ANY), row(3, 2, 60), row(0, 1, -1), (x, v) -> x.sheet(v[0], v[1], v[2])),
            act("lose", row(0), row(3), row(3), (x, v) -> x.lose(v[0])),
            act("lay", row(0, 0, ANY, ANY), row(3, 2, ANY, ANY), row(3, 1, -1, 5), (x, v) -> x.lay(v[0], v[1], v[2], v[3])),
            new Act("get", row(0, 0, ANY), row(3, 2, ANY), row(3, 1, 0), LEAST_INT, (x, v) -> x.get(v[0], v[1], v[2])),
            act("copy", row(0, ANY, 0, ANY, ANY), row(3, ANY, 3, ANY, ANY), row(3, 0, 2, 0, 1),
                (x, v) -> x.copy(v[0], v[1], v[2], v[3], v[4])),
            act("write", row(0, 0), row(11, 3), row(5, 3), (x, v) -> x.write(v[0], v[1])),
            act("count", row(0), row(8), row(0), (x, v) -> x.count(v[0])),
        };
    }

    private static int[] notAsTold(int least, int most) {
        if (least == ANY && most == ANY) {
            return row();
        }
        return least == ANY ? row(most + 1, Integer.MAX_VALUE) : row(least - 1, most + 1, LEAST_INT, Integer.MAX_VALUE);
    }

    private static void numbersNotAsTold() {
        quote(TERMS, "Refusals, the first that fits, in the order told at each act: BAD -2 (a number not as told, no such thing), NULL, NOT -3 (as told), FULL -4, other FINDINGS.");
        for (Act act : acts()) {
            for (int c = 0; c < Coasts.MAKERS.length; c++) {
                refuseEach(act, Coasts.NAMES[c], Coasts.MAKERS[c]);
            }
        }
        due("BAD", LowerBows.BAD, -2);
        due("NOT", LowerBows.NOT, -3);
        due("FULL", LowerBows.FULL, -4);
        due("NONE", LowerBows.NONE, -1);
    }

    /** Whatever else would be refused of the numbers that are as told in this state, BAD is told first. */
    private static void refuseEach(Act act, String name, Coasts.Maker maker) {
        java.util.List<Coasts.Call> refused = new java.util.ArrayList<>();
        int people = maker.make().count(0), latest = maker.make().count(8);
        for (int i = 0; i < act.told().length; i++) {
            int most = act.most()[i] == LAST ? people - 1 : act.most()[i];
            for (int wrong : notAsTold(act.least()[i], most)) {
                int[] v = act.told().clone();
                v[i] = wrong;
                LowerBows x = maker.make();
                due(act.name() + java.util.Arrays.toString(v) + ", " + name, act.taker().on(x, v), act.bad());
                due(act.name() + java.util.Arrays.toString(v) + ", " + name + ": count(8)", x.count(8), latest);
                refused.add(y -> act.taker().on(y, v));
            }
        }
        Autopsy.unchanged(act.name() + " as BAD, " + name, maker, refused.toArray(new Coasts.Call[0]));
    }

    private static void selves() {
        quote(TERMS, "(a number not as told, no such thing)");
        for (int c = 0; c < Coasts.MAKERS.length; c++) {
            Coasts.Maker maker = Coasts.MAKERS[c];
            for (int p = 0; p < 8; p++) {
                due("old to itself", maker.make().old(p, p, 5), BAD);
                due("owes itself", maker.make().owes(0, p, p), BAD);
                due("ends with itself", maker.make().ends(p, p, 0), BAD);
            }
            Autopsy.unchanged("itself, " + Coasts.NAMES[c], maker, x -> x.old(1, 1, 5), x -> x.owes(0, 1, 1), x -> x.ends(1, 1, 0));
        }
        for (int p = 0; p < 9; p++) {
            due("person(" + p + ", 0) of four", some().person(p, 0) == BAD ? 1 : 0, p < 4 ? 0 : 1);
            due("low(0, " + p + ") of four", some().low(0, p) == BAD ? 1 : 0, p < 4 ? 0 : 1);
            due("person(" + p + ", 0) of a FAULT", Coasts.faulty().person(p, 0), BAD);
        }
    }

    private static void orders() {
        quote(TERMS, "the first that fits, in the order told at each act");
        due("BAD ahead of FULL", full().type(0, 256), BAD);
        due("BAD ahead of NOT", new LowerBows().undo(2), BAD);
        due("BAD ahead of NULL", new LowerBows().write(12, 0), BAD);
        due("BAD ahead of SIZE", new LowerBows().sheet(0, 3, -1), BAD);
        due("BAD ahead of CAST and INDEX", full().lay(0, 3, 60, 0), BAD);
        due("NULL ahead of CAST and INDEX", full().lay(3, 1, 60, 0), NULL);
        due("NULL ahead of STORE and INDEX", full().copy(0, -1, 3, 0, 1), NULL);
        due("CAST ahead of INDEX", full().lay(0, 1, 60, 0), CAST);
        due("STORE ahead of INDEX", full().copy(0, -1, 1, 0, 1), STORE);
    }

    private static void refusalsChangeNothing() {
        quote(TERMS, "They change nothing (FINDINGS but count() 8).");
        Object[][] cases = {
            {"undo(0) as NOT", (Coasts.Maker) Coasts::fresh, (Coasts.Call) x -> x.undo(0), NOT},
            {"undo(1) as NOT", (Coasts.Maker) Coasts::fresh, (Coasts.Call) x -> x.undo(1), NOT},
            {"back(0) as NOT", (Coasts.Maker) Coasts::fresh, (Coasts.Call) x -> x.back(0), NOT},
            {"back(1) as NOT", (Coasts.Maker) Coasts::fresh, (Coasts.Call) x -> x.back(1), NOT},
            {"type(0) as FULL", (Coasts.Maker) Coasts::full, (Coasts.Call) x -> x.type(0, '1'), FULL},
            {"type(1) as FULL", (Coasts.Maker) Coasts::full, (Coasts.Call) x -> x.type(1, 'a'), FULL},
            {"old() as FULL", (Coasts.Maker) Coasts::full, (Coasts.Call) x -> x.old(0, 1, 99), FULL},
            {"umbrella() as FULL", (Coasts.Maker) Coasts::full, (Coasts.Call) x -> x.umbrella(7, 7), FULL},
            {"seen() as FULL", (Coasts.Maker) Coasts::full, (Coasts.Call) x -> x.seen(0, 0, 99), FULL},
        };
        for (Object[] one : cases) {
            Coasts.Maker maker = (Coasts.Maker) one[1];
            Coasts.Call call = (Coasts.Call) one[2];
            LowerBows x = maker.make();
            due((String) one[0], call.on(x), (int) one[3]);
            due(one[0] + ": count(8)", x.count(8), maker.make().count(8));
            Autopsy.unchanged((String) one[0], maker, call);
        }
    }

    private static void findingDue(String what, Coasts.Maker maker, Coasts.Call call, long answer, int number) {
        LowerBows x = maker.make();
        due(what, call.on(x), answer);
        due(what + ": count(8)", x.count(8), number);
        Autopsy.unchanged(what, maker, call);
    }

    private static void findingsChangeCount8() {
        quote(TERMS, "(answers -10 less the number; they change nothing but count() 8)");
        findingDue("read as NULL", Coasts::full, x -> x.read(3), -11, 1);
        findingDue("lose as NULL", Coasts::full, x -> x.lose(3), -11, 1);
        findingDue("lay as NULL", Coasts::full, x -> x.lay(3, 0, 0, 9), -11, 1);
        findingDue("lay as CAST", Coasts::some, x -> x.lay(0, 1, 0, 9), -13, 3);
        findingDue("lay as INDEX", Coasts::full, x -> x.lay(0, 0, 60, 9), -12, 2);
        findingDue("lay as INDEX below 0", Coasts::full, x -> x.lay(0, 0, -1, 9), -12, 2);
        findingDue("get as NULL", Coasts::full, x -> x.get(3, 0, 0), LEAST_INT, 1);
        findingDue("get as CAST", Coasts::some, x -> x.get(0, 1, 0), LEAST_INT, 3);
        findingDue("get as INDEX", Coasts::full, x -> x.get(0, 0, 60), LEAST_INT, 2);
        findingDue("copy as NULL, s", Coasts::full, x -> x.copy(3, 0, 0, 0, 1), -11, 1);
        findingDue("copy as NULL, t", Coasts::full, x -> x.copy(0, 0, 3, 0, 1), -11, 1);
        findingDue("copy as STORE", Coasts::full, x -> x.copy(0, 0, 2, 5, 5), -14, 4);
        findingDue("copy as INDEX, not so many to take", Coasts::full, x -> x.copy(0, 58, 0, 10, 3), -12, 2);
        findingDue("copy as INDEX, not so many to give", Coasts::full, x -> x.copy(0, 0, 0, 58, 3), -12, 2);
        findingDue("copy as INDEX below 0", Coasts::full, x -> x.copy(0, 0, 0, 5, -1), -12, 2);
        findingDue("write as NULL", Coasts::full, x -> x.write(0, 3), -11, 1);
        findingDue("sheet as SIZE", Coasts::full, x -> x.sheet(0, 2, -1), -15, 5);
        findingDue("sheet as SIZE of a LOST one", Coasts::full, x -> x.sheet(3, 2, LEAST_INT), -15, 5);
        findingDue("read as NULL of a new one", Coasts::fresh, x -> x.read(0), -11, 1);
    }

    private static void refusalOfLong() {
        quote(TERMS, "Where the answer is a long, a refusal -x is the least long and x more.");
        due("forgets() as BAD", new LowerBows().forgets(0, 0, 0, 0), -9223372036854775806L);
        due("forgets(17, ..)", full().forgets(17, 0, 0, 0), -9223372036854775806L);
        due("forgets(16, ..)", full().forgets(16, 0, 2, 0), 0);
    }
}
