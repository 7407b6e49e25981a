/** A BellHouse that looks after the tests: nothing is promised beyond 512 calls on one object. */
final class House {
    static final int MOST_CALLS = 512;

    private final BellHouse asked = new BellHouse();
    private int calls = 0;

    int callsLeft() {
        return MOST_CALLS - calls;
    }

    private BellHouse next() {
        if (calls == MOST_CALLS) {
            throw new IllegalStateException("this test makes more than 512 calls on one object");
        }
        calls++;
        return asked;
    }

    int tally(int k, long v) {
        return next().tally(k, v);
    }

    int way(int bell, int way) {
        return next().way(bell, way);
    }

    int hearer(int sort, int a, int b) {
        return next().hearer(sort, a, b);
    }

    int bind(int hearer, int bell) {
        return next().bind(hearer, bell);
    }

    int leave(int hearer, int bell) {
        return next().leave(hearer, bell);
    }

    int take(int hearer) {
        return next().take(hearer);
    }

    int lend(int hearer, int from) {
        return next().lend(hearer, from);
    }

    int ring(int bell, long v) {
        return next().ring(bell, v);
    }

    int drain() {
        return next().drain();
    }

    int act(int hearer, long v) {
        return next().act(hearer, v);
    }

    long get(int k) {
        return next().get(k);
    }

    int line(int bell, int place) {
        return next().line(bell, place);
    }

    int queued(int i) {
        return next().queued(i);
    }

    int count(int what) {
        return next().count(what);
    }

    int done(int hearer) {
        return next().done(hearer);
    }
}
