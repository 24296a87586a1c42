/** Short names for the boundary tests. */
abstract class Bounds {
    static final int NONE = Sentences.NONE, BAD = Sentences.BAD, NOT = Sentences.NOT, FULL = Sentences.FULL;
    static final int NULL = Sentences.NULL, INDEX = Sentences.INDEX, CAST = Sentences.CAST, STORE = Sentences.STORE;
    static final int SIZE = Sentences.SIZE, LEAST_INT = Sentences.LEAST_INT;
    static final long BAD_LONG = Sentences.BAD_LONG;

    static void quote(String title, String sentence) {
        Sentences.quote(title, sentence);
    }

    static void due(String call, long got, long want) {
        Sentences.due(call, got, want);
    }

    static void hold(String what, boolean holds) {
        Sentences.hold(what, holds);
    }

    static LowerBows of(String people, String walks) {
        return Coasts.of(people, walks);
    }

    static LowerBows tell(LowerBows x, int text, String bytes) {
        return Coasts.tell(x, text, bytes);
    }

    static LowerBows crowd(int people) {
        return Coasts.crowd(people);
    }

    static LowerBows some() {
        return Coasts.some();
    }

    static LowerBows full() {
        return Coasts.full();
    }

    static void layAll(LowerBows x, int s, int form, int... items) {
        Coasts.layAll(x, s, form, items);
    }
}
