import java.util.Random;

/** Calls with any arguments, in any state: none may throw, refusals change nothing, and all answers are in range. */
public final class AnyArguments {
    private static final int NULL = -11, SIZE = -15;
    private static final int[] EDGES = {Integer.MIN_VALUE, Integer.MIN_VALUE + 1, -61, -11, -3, -2, -1, 0, 1, 2, 3, 4, 5, 7,
        8, 9, 11, 12, 16, 17, 39, 59, 60, 61, 71, 97, 98, 99, 100, 111, 112, 255, 256, 32768, Integer.MAX_VALUE - 1,
        Integer.MAX_VALUE};
    private static int wrong;

    private static int any(Random r) {
        int kind = r.nextInt(8);
        return kind < 5 ? r.nextInt(4) : kind < 7 ? EDGES[r.nextInt(EDGES.length)] : r.nextInt();
    }

    private static int anyByte(Random r) {
        return "oopc0123459;;abcdefgh".charAt(r.nextInt(21));
    }

    /** Calls that change something when they are not refused. */
    private static long change(LowerBows x, Random r, int which) {
        switch (which) {
            case 0: return x.type(any(r), any(r));
            case 1: return x.wipe(r.nextInt(20) == 0 ? any(r) : -1);
            case 2: return x.undo(any(r));
            case 3: return x.old(any(r), any(r), any(r));
            case 4: return x.umbrella(any(r), any(r));
            case 5: return x.back(any(r));
            case 6: return x.read(any(r));
            case 7: return x.seen(any(r), any(r), any(r));
            case 8: return x.sheet(any(r), any(r), any(r));
            case 9: return x.lose(any(r));
            case 10: return x.lay(any(r), any(r), any(r), any(r));
            case 11: return x.copy(any(r), any(r), any(r), any(r), any(r));
            case 12: return x.write(any(r), any(r));
            default: return x.type(r.nextInt(2), anyByte(r));
        }
    }

    private static long ask(LowerBows x, Random r, int which) {
        switch (which) {
            case 0: return x.fault(any(r));
            case 1: return x.person(any(r), any(r));
            case 2: return x.street(any(r), any(r));
            case 3: return x.low(any(r), any(r));
            case 4: return x.behind(any(r), any(r));
            case 5: return x.owes(any(r), any(r), any(r));
            case 6: return x.first(any(r));
            case 7: return x.ends(any(r), any(r), any(r));
            case 8: return x.rings(any(r), any(r));
            case 9: return x.shade(any(r));
            case 10: return x.stroll(any(r), any(r), any(r));
            case 11: return x.never(any(r));
            case 12: return x.pass();
            case 13: return x.forgets(any(r), any(r), any(r), any(r));
            case 14: return x.season(any(r), any(r), any(r));
            case 15: return x.get(any(r), any(r), any(r));
            default: return x.count(any(r));
        }
    }

    private static void say(String what) {
        wrong++;
        System.out.println(what);
    }

    private static void checkChange(LowerBows x, Random r, int which) {
        long before = x.digest();
        int finding = x.count(8);
        long answer = change(x, r, which);
        boolean refused = answer < -1;
        if (refused && x.digest() != before) {
            say("call " + which + ": the refusal " + answer + " changed something");
        }
        boolean isFinding = answer <= NULL && answer >= SIZE;
        int dueFinding = isFinding ? (int) (-10 - answer) : finding;
        if (x.count(8) != dueFinding) {
            say("call " + which + ": " + answer + " left count(8) at " + x.count(8) + ", due is " + dueFinding);
        }
        if (answer == -1 || answer > 71 || refused && !isFinding && (answer < -4)) {
            say("call " + which + " answered " + answer);
        }
    }

    private static void checkAsk(LowerBows x, Random r, int which) {
        long before = x.digest();
        int finding = x.count(8);
        long answer = ask(x, r, which);
        if (x.digest() != before) {
            say("asking " + which + " changed something");
        }
        if (which != 15 && x.count(8) != finding) {
            say("asking " + which + " changed count(8)");
        }
        if (which != 15 && which != 13 && (answer < -2 || answer > 2000)) {
            say("asking " + which + " answered " + answer);
        }
    }

    public static void main(String[] args) {
        int calls = 0;
        for (int seed = 1; seed <= 60; seed++) {
            Random r = new Random(seed);
            LowerBows x = new LowerBows();
            for (int i = 0; i < 120; i++, calls += 2) {
                checkChange(x, r, r.nextInt(18));
                checkAsk(x, r, r.nextInt(17));
            }
        }
        System.out.println(calls + " calls with any arguments, " + wrong + " wrong");
        if (wrong != 0) {
            System.exit(1);
        }
    }
}
