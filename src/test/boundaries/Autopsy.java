import java.util.ArrayList;
import java.util.List;

/**
 * All that can be asked of an object. Asking takes it to pieces and, with FINDINGS, changes count() 8, and an object is
 * used for 512 calls at most: so each group of answers is of an object of its own, made by the same calls.
 */
final class Autopsy {
    private static final int NONE = -1;

    private final Coasts.Maker maker;
    private final List<Long> answers = new ArrayList<>();

    private Autopsy(Coasts.Maker maker) {
        this.maker = maker;
    }

    /** All but count() 8. */
    static List<Long> of(Coasts.Maker maker) {
        Autopsy autopsy = new Autopsy(maker);
        autopsy.askWholes();
        autopsy.askHours();
        autopsy.askPairs();
        autopsy.peelTexts();
        for (int k = 0; k <= 12; k++) {
            autopsy.peelOldBows(k);
        }
        for (int k = 0; k <= 8; k++) {
            autopsy.peelUmbrellas(k, "aaaaaaaaaaaa;aaaaaaaaaaaa;bbbbbbbbbbbb;bbbbbbbbbbbb");
            autopsy.peelUmbrellas(k, ";;;;aaaaaaaaaaaa;aaaaaaaaaaaa;bbbbbbbbbbbb;bbbbbbbbbbbb");
        }
        for (int s = 0; s < 4; s++) {
            autopsy.askSheet(s);
        }
        return autopsy.answers;
    }

    /** That the calls change nothing but, if one is a FINDING, count() 8. */
    static void unchanged(String what, Coasts.Maker maker, Coasts.Call... calls) {
        Coasts.Maker after = () -> {
            LowerBows x = maker.make();
            for (Coasts.Call call : calls) {
                call.on(x);
            }
            return x;
        };
        Sentences.hold(what + " changes nothing", of(maker).equals(of(after)));
    }

    private void note(long answer) {
        answers.add(answer);
    }

    private void askWholes() {
        LowerBows x = maker.make();
        for (int what = 0; what <= 7; what++) {
            note(x.count(what));
        }
        note(x.fault(0));
        note(x.fault(1));
        for (int i = NONE; i <= 1; i++) {
            note(x.shade(i));
        }
        note(x.never(0));
        note(x.never(1));
        note(x.pass());
        for (int p = NONE; p < 8; p++) {
            note(x.season(5, 40, p));
        }
        note(x.digest());
        note(x.forget());
        note(x.never(0));
    }

    private void askHours() {
        LowerBows x = maker.make();
        for (int hour = 0; hour < 12; hour++) {
            for (int p = 0; p < 8; p++) {
                note(x.street(hour, p));
                note(x.low(hour, p));
            }
            for (int what = 0; what < 2; what++) {
                note(x.behind(hour, what));
                note(x.rings(hour, what));
            }
        }
        for (int p = 0; p < 8; p++) {
            for (int what = 0; what < 3; what++) {
                note(x.person(p, what));
            }
        }
        note(x.first(0));
        note(x.first(1));
    }

    private void askPairs() {
        LowerBows x = maker.make();
        for (int a = 0; a < 8; a++) {
            for (int b = 0; b < 8; b++) {
                note(x.owes(11, a, b));
                note(x.ends(a, b, 0));
                note(x.ends(a, b, 1));
            }
        }
    }

    private void peelTexts() {
        LowerBows x = maker.make();
        for (int text = 0; text < 2; text++) {
            for (int left = x.count(2 + text); left > 0; left = x.undo(text)) {
                note(x.fault(text));
            }
        }
    }

    private void peelOldBows(int less) {
        LowerBows x = maker.make();
        x.wipe(1);
        x.wipe(0);
        Coasts.tell(x, 0, Coasts.EIGHT);
        for (int k = 0; k < less; k++) {
            note(x.back(0));
        }
        for (int a = 0; a < 8; a++) {
            for (int b = 0; b < 8; b++) {
                note(x.owes(0, a, b));
            }
        }
    }

    private void peelUmbrellas(int less, String walks) {
        LowerBows x = maker.make();
        x.wipe(1);
        x.wipe(0);
        Coasts.tell(Coasts.tell(x, 0, Coasts.EIGHT), 1, walks);
        while (x.back(0) > 0) {
            note(x.count(4));
        }
        for (int k = 0; k < less; k++) {
            note(x.back(1));
        }
        for (int hour = 0; hour < 12; hour++) {
            note(x.behind(hour, 1));
            note(x.low(hour, 0));
            note(x.low(hour, 4));
        }
    }

    private void askSheet(int s) {
        LowerBows x = maker.make();
        for (int form = 0; form < 3; form++) {
            // a FINDING of its own, so that count() 8 tells of nothing ahead of it
            x.sheet(s, form, -1);
            for (int i = 0; i < 60; i++) {
                note(x.get(s, form, i));
            }
            note(x.count(8));
        }
        note(x.lose(s));
    }
}
