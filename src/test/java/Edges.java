import java.util.List;

/** What the tests of the document's sentences share: names for its numbers, and houses to begin with. */
abstract class Edges {
    static final int NONE = BellHouse.NONE, BAD = BellHouse.BAD, FULL = BellHouse.FULL;
    static final int MIN = Integer.MIN_VALUE, MAX = Integer.MAX_VALUE;
    static final long LEAST = Long.MIN_VALUE, GREATEST = Long.MAX_VALUE;
    /** As an int this is 0. */
    static final long FAR = 1L << 32;

    static final int ADD = 0, MOST = 1, BACK = 2, SHARE = 3, POINT = 4, RING = 5, LATER = 6, STOP = 7;
    static final int FIRST = 8, EACH = 9, IF = 10, BOTH = 11, TRY = 12, CUT = 13, BIND = 14;
    /** What a call answers that the failure came up to. */
    static final int ZERO = -11, PLACE = -12, EMPTY = -13, ROOM = -14, DEEP = -15, SPENT = -16;
    static final int HARD = 0, SOFT = 1;

    interface Making {
        void of(House x);
    }

    interface Call {
        long on(House x);
    }

    private final Sentences sentences;

    Edges(Sentences sentences) {
        this.sentences = sentences;
    }

    abstract void all();

    final void sentence(String where, String quote) {
        sentences.sentence(where, quote);
    }

    final void due(String what, long got, long want) {
        sentences.due(what, got, want);
    }

    /** The calls are refused with this answer, and change nothing that later calls show. */
    final void refused(String what, int answer, Making making, Call... calls) {
        House asked = new House();
        House leftAlone = new House();
        making.of(asked);
        making.of(leftAlone);
        for (int i = 0; i < calls.length; i++) {
            due(what + ", refused call " + i, calls[i].on(asked), answer);
        }
        List<String> got = LaterCalls.on(asked);
        List<String> want = LaterCalls.on(leftAlone);
        due(what + ": how many later calls there are", got.size(), want.size());
        for (int i = 0; i < got.size() && i < want.size(); i++) {
            sentences.holds(what + ": later " + got.get(i) + ", but " + want.get(i)
                    + " without the refused calls", got.get(i).equals(want.get(i)));
        }
    }

    /** A house with something of everything; hearers 2 to 12 are made, bells 3 and 4 have no line. */
    static void furnish(House x) {
        for (int k = 0; k < 8; k++) {
            x.tally(k, 100 * k - 250);
        }
        x.way(1, SOFT);
        int add = x.hearer(ADD, 1, 5);
        int share = x.hearer(SHARE, 2, 0);
        int back = x.hearer(BACK, 3, 4);
        int ring = x.hearer(RING, 1, 1);
        int first = x.hearer(FIRST, add, 3);
        int each = x.hearer(EACH, back, 2);
        int tried = x.hearer(TRY, share, 7);
        int none = noAct(x);
        int later = x.hearer(LATER, 2, 0);
        int laying = x.hearer(BOTH, later, none);
        int lent = x.hearer(MOST, 0, 0);
        x.lend(lent, first);
        bindAll(x, 0, add, tried, ring);
        bindAll(x, 1, share, none, 0);
        bindAll(x, 2, first, lent);
        bindAll(x, 5, each);
        x.tally(3, 9);
        x.ring(0, 0);
        x.act(laying, 6);
        x.act(laying, -2);
    }

    static void bindAll(House x, int bell, int... hearers) {
        for (int hearer : hearers) {
            x.bind(hearer, bell);
        }
    }

    /** A hearer that has no act. */
    static int noAct(House x) {
        int hearer = x.hearer(ADD, 0, 0);
        x.take(hearer);
        return hearer;
    }

    /** A hearer whose act lays v for the bell and then fails, EMPTY: so the entry stays. */
    static int laying(House x, int bell) {
        int later = x.hearer(LATER, bell, 0);
        return x.hearer(BOTH, later, noAct(x));
    }

    /** BOTH of the act before, some times over: 2 to the power of times of the act. */
    static int doubled(House x, int hearer, int times) {
        int top = hearer;
        for (int i = 0; i < times; i++) {
            top = x.hearer(BOTH, top, top);
        }
        return top;
    }

    /** A hearer whose act makes 191 steps or more, all well; it changes nothing if it is done with 0. */
    static int making(House x, int steps) {
        int of63 = doubled(x, 0, 5);
        int of127 = doubled(x, of63, 1);
        int top = x.hearer(BOTH, of127, of63);
        for (int made = 191; made < steps; made++) {
            top = x.hearer(FIRST, top, MAX);
        }
        return top;
    }

    /** Twelve new hearers, ADD to tally 1 of 1, 2, 4 and so on, in the line of the bell; the first of them. */
    static int twelveInLine(House x, int bell) {
        int first = x.count(0);
        for (int i = 0; i < 12; i++) {
            x.bind(x.hearer(ADD, 1, 1 << i), bell);
        }
        return first;
    }

    /** The failures met come to be so many (16 at least), with an empty queue, in some 40 calls. */
    static void meetFailures(House x, int many) {
        int tried = x.hearer(TRY, noAct(x), 6);
        int of16 = doubled(x, tried, 4);
        int of64 = doubled(x, of16, 2);
        int left = many - x.count(9);
        for (; left >= 64; left -= 64) {
            x.act(of64, 0);
        }
        for (; left >= 16; left -= 16) {
            x.act(of16, 0);
        }
        for (; left > 0; left--) {
            x.act(tried, 0);
        }
    }
}
