import java.util.ArrayDeque;
import java.util.ArrayList;
import java.util.Arrays;
import java.util.List;

/** The document written a second time, with objects for acts and exceptions for ends, to compare with. */
final class ModelHouse {
    private static final int NONE = -1, BAD = -2, FULL = -3;

    private static final class Failure extends RuntimeException {
        private static final long serialVersionUID = 1L;
        final int kind;

        Failure(int kind) {
            super(null, null, false, false);
            this.kind = kind;
        }

        boolean endsAll() {
            return kind >= 5;
        }
    }

    private static final class Stopped extends RuntimeException {
        private static final long serialVersionUID = 1L;

        Stopped() {
            super(null, null, false, false);
        }
    }

    private interface Deed {
        void with(long v, int times);
    }

    private static final class Act {
        final Deed deed;
        int times = 0;

        Act(Deed deed) {
            this.deed = deed;
        }
    }

    private static final class Laid {
        final int bell;
        final long v;

        Laid(int bell, long v) {
            this.bell = bell;
            this.v = v;
        }
    }

    private final long[] tallies = new long[8];
    private final List<List<Integer>> lines = new ArrayList<>();
    private final boolean[] soft = new boolean[6];
    private final List<Act> own = new ArrayList<>();
    private final List<Act> had = new ArrayList<>();
    private final ArrayDeque<Laid> queue = new ArrayDeque<>();
    private final int[] counts = new int[10];
    private int depth = 0;
    private int left = 0;
    private boolean inQueue = false;

    /** How often that came which drawn calls seldom bring. */
    int spentAheadOfQueue = 0;
    int toldFurtherBehind = 0;

    ModelHouse() {
        for (int bell = 0; bell < 6; bell++) {
            lines.add(new ArrayList<>());
        }
        hearer(0, 0, 0);
        hearer(7, 0, 0);
    }

    int tally(int k, long v) {
        if (none(k, 8)) {
            return BAD;
        }
        tallies[k] = v;
        return 1;
    }

    int way(int bell, int way) {
        if (none(bell, 6) || none(way, 2)) {
            return BAD;
        }
        int was = soft[bell] ? 1 : 0;
        soft[bell] = way == 1;
        return was;
    }

    int hearer(int sort, int a, int b) {
        boolean tallyA = sort <= 3;
        boolean tallyB = sort == 10 || sort == 12;
        boolean bellA = sort == 5 || sort == 6;
        boolean hearerA = sort >= 8;
        if (none(sort, 15) || tallyA && none(a, 8) || tallyB && none(b, 8) || bellA && none(a, 6)
                || sort == 14 && none(b, 6) || hearerA && none(a, own.size())
                || sort == 11 && none(b, own.size())) {
            return BAD;
        }
        if (own.size() == 40) {
            return FULL;
        }
        Act act = new Act(deed(sort, a, b));
        own.add(act);
        had.add(act);
        return own.size() - 1;
    }

    private Deed deed(int sort, int a, int b) {
        if (sort >= 8 && sort <= 12) {
            return deedOfActs(sort, had.get(a), sort == 11 ? had.get(b) : null, b);
        }
        switch (sort) {
            case 0: return (v, n) -> tallies[a] = tallies[a] + v + b;
            case 1: return (v, n) -> { if (v > tallies[a]) tallies[a] = v; };
            case 2: long was = tallies[a]; return (v, n) -> tallies[a] = was + b;
            case 3: return (v, n) -> { failIf(v == 0, 1); tallies[a] = tallies[a] / v; };
            case 4: return (v, n) -> { failIf(v < 0 || v > 7, 2); tallies[(int) v] += b; };
            case 5: return (v, n) -> ringing(a, v + b);
            case 6: return (v, n) -> { failIf(queue.size() == 20, 4); queue.add(new Laid(a, v + b)); };
            case 7: return (v, n) -> { counts[6]++; throw new Stopped(); };
            case 13: return (v, n) -> lines.forEach(line -> line.remove((Integer) a));
            default: return (v, n) -> {
                if (!lines.get(b).contains(a)) {
                    failIf(lines.get(b).size() == 12, 4);
                    lines.get(b).add(a);
                }
            };
        }
    }

    private Deed deedOfActs(int sort, Act one, Act two, int b) {
        switch (sort) {
            case 8: return (v, n) -> { if (n <= b) begin(one, v); };
            case 9: return (v, n) -> { if (b < 1 || n % b == 0) begin(one, v); };
            case 10: return (v, n) -> { if (tallies[b] > 0) begin(one, v); };
            case 11: return (v, n) -> { begin(one, v); begin(two, v); };
            default: return (v, n) -> {
                try {
                    begin(one, v);
                } catch (Failure failure) {
                    meet(failure, 5);
                    tallies[b]++;
                }
            };
        }
    }

    private static boolean none(int number, int many) {
        return number < 0 || number >= many;
    }

    private static void failIf(boolean so, int kind) {
        if (so) {
            throw new Failure(kind);
        }
    }

    private void meet(Failure failure, int what) {
        if (failure.endsAll()) {
            throw failure;
        }
        counts[what]++;
        counts[9]++;
    }

    private void begin(Act act, long v) {
        failIf(act == null, 3);
        failIf(left == 0, 6);
        left--;
        counts[1]++;
        act.times++;
        act.deed.with(v, act.times);
    }

    private void ringing(int bell, long v) {
        failIf(depth == 8, 5);
        depth++;
        counts[2]++;
        try {
            List<Integer> atFirst = new ArrayList<>(lines.get(bell));
            for (int hearer : atFirst) {
                int place = lines.get(bell).indexOf(hearer);
                if (place >= 0) {
                    toldFurtherBehind += place > atFirst.indexOf(hearer) ? 1 : 0;
                    tell(hearer, bell, v);
                }
            }
        } catch (Stopped stopped) {
            return;
        } finally {
            depth--;
        }
    }

    private void tell(int hearer, int bell, long v) {
        try {
            begin(had.get(hearer), v);
        } catch (Failure failure) {
            if (!soft[bell]) {
                throw failure;
            }
            meet(failure, 3);
        }
    }

    private int call(Runnable before) {
        if (counts[9] >= 2000) {
            return FULL;
        }
        left = 200;
        inQueue = false;
        try {
            before.run();
            inQueue = true;
            while (!queue.isEmpty()) {
                Laid laid = queue.remove();
                ringing(laid.bell, laid.v);
            }
        } catch (Failure failure) {
            counts[4]++;
            counts[9]++;
            counts[8] = failure.kind;
            spentAheadOfQueue += failure.kind == 6 && !inQueue ? 1 : 0;
            return -10 - failure.kind;
        }
        return 200 - left;
    }

    int bind(int hearer, int bell) {
        if (none(hearer, own.size()) || none(bell, 6)) {
            return BAD;
        }
        List<Integer> line = lines.get(bell);
        if (line.contains(hearer)) {
            return NONE;
        }
        if (line.size() == 12) {
            return FULL;
        }
        line.add(hearer);
        return line.size() - 1;
    }

    int leave(int hearer, int bell) {
        if (none(hearer, own.size()) || none(bell, 6)) {
            return BAD;
        }
        int place = lines.get(bell).indexOf(hearer);
        lines.get(bell).remove((Integer) hearer);
        return place;
    }

    int take(int hearer) {
        return none(hearer, own.size()) ? BAD : had.set(hearer, null) == null ? 0 : 1;
    }

    int lend(int hearer, int from) {
        if (none(hearer, own.size()) || none(from, own.size())) {
            return BAD;
        }
        had.set(hearer, had.get(from));
        return 1;
    }

    int ring(int bell, long v) {
        return none(bell, 6) ? BAD : call(() -> ringing(bell, v));
    }

    int drain() {
        return call(() -> { });
    }

    int act(int hearer, long v) {
        return none(hearer, own.size()) ? BAD : call(() -> {
            try {
                begin(had.get(hearer), v);
            } catch (Stopped stopped) {
                return;
            }
        });
    }

    long get(int k) {
        return none(k, 8) ? 0 : tallies[k];
    }

    int line(int bell, int place) {
        return none(bell, 6) ? BAD : none(place, lines.get(bell).size()) ? NONE : lines.get(bell).get(place);
    }

    int queued(int i) {
        return none(i, queue.size()) ? NONE : new ArrayList<>(queue).get(i).bell;
    }

    int count(int what) {
        return none(what, 10) ? BAD : what == 0 ? own.size() : what == 7 ? queue.size() : counts[what];
    }

    int done(int hearer) {
        return none(hearer, own.size()) ? BAD : own.get(hearer).times;
    }

    @Override
    public String toString() {
        return Arrays.toString(tallies) + lines + Arrays.toString(counts);
    }
}
