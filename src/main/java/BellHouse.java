/**
 * A house of bells: hearers stand in the lines of bells and do their acts when a bell is rung.
 *
 * How an act or a ringing ended is carried as a plain number (WELL, a FAILURE, STOPPED) and not as
 * an exception, so that ringing makes no objects at all.
 */
public final class BellHouse {
    public static final int NONE = -1, BAD = -2, FULL = -3;

    private static final int TALLIES = 8;
    private static final int BELLS = 6;
    private static final int LINE_PLACES = 12;
    private static final int MOST_HEARERS = 40;
    private static final int QUEUE_PLACES = 20;
    private static final int MOST_RINGINGS_UNDER_WAY = 8;
    private static final int MOST_STEPS = 200;
    private static final int MOST_FAILURES_MET = 2000;

    private static final int HARD = 0, SOFT = 1;

    private static final int ADD = 0, MOST = 1, BACK = 2, SHARE = 3, POINT = 4;
    private static final int RING = 5, LATER = 6, STOP = 7;
    private static final int FIRST = 8, EACH = 9, IF = 10, BOTH = 11, TRY = 12;
    private static final int CUT = 13, BIND = 14;

    private static final int WELL = 0;
    private static final int ZERO = 1, PLACE = 2, EMPTY = 3, ROOM = 4, DEEP = 5, SPENT = 6;
    private static final int STOPPED = 7;
    private static final int FAILED_CALL = -10;

    private final long[] tallies = new long[TALLIES];
    private final Bell[] bells = new Bell[BELLS];
    private final Queue queue = new Queue();

    /** The act made with each hearer, and the one that it has now (null: none). */
    private final Act[] ownActs = new Act[MOST_HEARERS];
    private final Act[] actsHad = new Act[MOST_HEARERS];
    private int hearers;

    /** Who is to be told, a row for each ringing under way: made once, used by every call. */
    private final int[][] toldRows = new int[MOST_RINGINGS_UNDER_WAY][LINE_PLACES];
    private int ringingsUnderWay;
    private int stepsOfCall;

    private int stepsEver;
    private int ringingsEver;
    private int misses;
    private int failedCalls;
    private int metByTries;
    private int stops;
    private int latestFailure;
    private int failuresMet;

    public BellHouse() {
        for (int bell = 0; bell < BELLS; bell++) {
            bells[bell] = new Bell();
        }
        makeHearer(ADD, 0, 0);
        makeHearer(STOP, 0, 0);
    }

    public int tally(int k, long v) {
        if (!isTally(k)) {
            return BAD;
        }
        tallies[k] = v;
        return 1;
    }

    public int way(int bell, int way) {
        if (!isBell(bell) || (way != HARD && way != SOFT)) {
            return BAD;
        }
        int before = bells[bell].way;
        bells[bell].way = way;
        return before;
    }

    public int hearer(int sort, int a, int b) {
        if (!canBeMade(sort, a, b)) {
            return BAD;
        }
        return hearers >= MOST_HEARERS ? FULL : makeHearer(sort, a, b);
    }

    public int bind(int hearer, int bell) {
        return isHearer(hearer) && isBell(bell) ? bells[bell].append(hearer) : BAD;
    }

    public int leave(int hearer, int bell) {
        return isHearer(hearer) && isBell(bell) ? bells[bell].remove(hearer) : BAD;
    }

    public int take(int hearer) {
        if (!isHearer(hearer)) {
            return BAD;
        }
        int had = actsHad[hearer] == null ? 0 : 1;
        actsHad[hearer] = null;
        return had;
    }

    public int lend(int hearer, int from) {
        if (!isHearer(hearer) || !isHearer(from)) {
            return BAD;
        }
        actsHad[hearer] = actsHad[from];
        return 1;
    }

    public int ring(int bell, long v) {
        if (!isBell(bell)) {
            return BAD;
        }
        if (failuresMet >= MOST_FAILURES_MET) {
            return FULL;
        }
        stepsOfCall = 0;
        return answerOfCall(ringQueueAfter(ringBell(bell, v)));
    }

    public int drain() {
        if (failuresMet >= MOST_FAILURES_MET) {
            return FULL;
        }
        stepsOfCall = 0;
        return answerOfCall(ringQueueAfter(WELL));
    }

    public int act(int hearer, long v) {
        if (!isHearer(hearer)) {
            return BAD;
        }
        if (failuresMet >= MOST_FAILURES_MET) {
            return FULL;
        }
        stepsOfCall = 0;
        return answerOfCall(ringQueueAfter(wellIfStopped(perform(actsHad[hearer], v))));
    }

    public long get(int k) {
        return isTally(k) ? tallies[k] : 0;
    }

    public int line(int bell, int place) {
        return isBell(bell) ? bells[bell].hearerAt(place) : BAD;
    }

    public int queued(int i) {
        return queue.bellAt(i);
    }

    public int count(int what) {
        switch (what) {
            case 0:
                return hearers;
            case 1:
                return stepsEver;
            case 2:
                return ringingsEver;
            case 3:
                return misses;
            case 4:
                return failedCalls;
            case 5:
                return metByTries;
            case 6:
                return stops;
            case 7:
                return queue.size;
            case 8:
                return latestFailure;
            case 9:
                return failuresMet;
            default:
                return BAD;
        }
    }

    public int done(int hearer) {
        return isHearer(hearer) ? ownActs[hearer].begun : BAD;
    }

    private static boolean isTally(long k) {
        return k >= 0 && k < TALLIES;
    }

    private static boolean isBell(int bell) {
        return bell >= 0 && bell < BELLS;
    }

    private boolean isHearer(int hearer) {
        return hearer >= 0 && hearer < hearers;
    }

    private boolean canBeMade(int sort, int a, int b) {
        switch (sort) {
            case ADD:
            case MOST:
            case BACK:
            case SHARE:
                return isTally(a);
            case POINT:
            case STOP:
                return true;
            case RING:
            case LATER:
                return isBell(a);
            case FIRST:
            case EACH:
            case CUT:
                return isHearer(a);
            case IF:
            case TRY:
                return isHearer(a) && isTally(b);
            case BOTH:
                return isHearer(a) && isHearer(b);
            case BIND:
                return isHearer(a) && isBell(b);
            default:
                return false;
        }
    }

    private int makeHearer(int sort, int a, int b) {
        long kept = sort == BACK ? tallies[a] : 0;
        Act first = sort >= FIRST && sort <= TRY ? actsHad[a] : null;
        Act second = sort == BOTH ? actsHad[b] : null;
        Act made = new Act(sort, a, b, kept, first, second);
        ownActs[hearers] = made;
        actsHad[hearers] = made;
        return hearers++;
    }

    private int answerOfCall(int end) {
        if (end == WELL) {
            return stepsOfCall;
        }
        failedCalls++;
        failuresMet++;
        latestFailure = end;
        return FAILED_CALL - end;
    }

    private int ringQueueAfter(int endBefore) {
        int end = endBefore;
        // An entry that was not there at first was laid by a step of this call: there are no more to take.
        int mostTaken = QUEUE_PLACES + MOST_STEPS;
        for (int taken = 0; taken < mostTaken && end == WELL && queue.size > 0; taken++) {
            int bell = queue.firstBell();
            long v = queue.firstValue();
            queue.dropFirst();
            end = ringBell(bell, v);
        }
        return end;
    }

    private int ringBell(int bell, long v) {
        if (ringingsUnderWay >= MOST_RINGINGS_UNDER_WAY) {
            return DEEP;
        }
        Bell rung = bells[bell];
        int[] told = toldRows[ringingsUnderWay];
        int many = rung.copyLine(told);
        ringingsUnderWay++;
        ringingsEver++;
        int end = WELL;
        for (int turn = 0; turn < many && end == WELL; turn++) {
            int hearer = told[turn];
            if (rung.placeOf(hearer) != NONE) {
                end = metByBell(rung, perform(actsHad[hearer], v));
            }
        }
        ringingsUnderWay--;
        return wellIfStopped(end);
    }

    /**
     * The one method that stands open once for each act that is under way: an act that does acts
     * calls it straight, so that the limit of 200 steps keeps the open calls few.
     */
    private int perform(Act act, long v) {
        if (act == null) {
            return EMPTY;
        }
        if (stepsOfCall >= MOST_STEPS) {
            return SPENT;
        }
        stepsOfCall++;
        stepsEver++;
        act.begun++;
        switch (act.sort) {
            case RING:
                return ringBell(act.a, v + act.b);
            case FIRST:
                return act.begun <= act.b ? perform(act.first, v) : WELL;
            case EACH:
                return act.begun % Math.max(act.b, 1) == 0 ? perform(act.first, v) : WELL;
            case IF:
                return tallies[act.b] > 0 ? perform(act.first, v) : WELL;
            case BOTH:
                int end = perform(act.first, v);
                return end == WELL ? perform(act.second, v) : end;
            case TRY:
                return metByTry(act, perform(act.first, v));
            default:
                return performAlone(act, v);
        }
    }

    /** The acts that neither do acts nor ring. */
    private int performAlone(Act act, long v) {
        switch (act.sort) {
            case ADD:
                tallies[act.a] += v + act.b;
                return WELL;
            case MOST:
                tallies[act.a] = Math.max(tallies[act.a], v);
                return WELL;
            case BACK:
                tallies[act.a] = act.kept + act.b;
                return WELL;
            case SHARE:
                return shareTally(act.a, v);
            case POINT:
                return addAtPlace(v, act.b);
            case LATER:
                return queue.append(act.a, v + act.b) ? WELL : ROOM;
            case STOP:
                stops++;
                return STOPPED;
            case CUT:
                removeFromAllLines(act.a);
                return WELL;
            case BIND:
                return bells[act.b].append(act.a) == FULL ? ROOM : WELL;
            default:
                return WELL;
        }
    }

    private int shareTally(int k, long v) {
        if (v == 0) {
            return ZERO;
        }
        tallies[k] /= v;
        return WELL;
    }

    private int addAtPlace(long k, int more) {
        if (!isTally(k)) {
            return PLACE;
        }
        tallies[(int) k] += more;
        return WELL;
    }

    private void removeFromAllLines(int hearer) {
        for (int bell = 0; bell < BELLS; bell++) {
            bells[bell].remove(hearer);
        }
    }

    private int metByBell(Bell rung, int end) {
        if (rung.way == HARD || !canBeMet(end)) {
            return end;
        }
        misses++;
        failuresMet++;
        return WELL;
    }

    private int metByTry(Act act, int end) {
        if (!canBeMet(end)) {
            return end;
        }
        tallies[act.b]++;
        metByTries++;
        failuresMet++;
        return WELL;
    }

    /** DEEP and SPENT are met by the call alone. */
    private static boolean canBeMet(int end) {
        return end == ZERO || end == PLACE || end == EMPTY || end == ROOM;
    }

    private static int wellIfStopped(int end) {
        return end == STOPPED ? WELL : end;
    }

    /** Hearers and other acts may hold the very same act, and so share its count. */
    private static final class Act {
        final int sort;
        final int a;
        final int b;
        /** Tally a as it was when a BACK was made. */
        final long kept;
        /** The acts of hearers a and b as they were when this one was made; null: none. */
        final Act first;
        final Act second;
        int begun;

        Act(int sort, int a, int b, long kept, Act first, Act second) {
            this.sort = sort;
            this.a = a;
            this.b = b;
            this.kept = kept;
            this.first = first;
            this.second = second;
        }
    }

    private static final class Bell {
        final int[] hearersInLine = new int[LINE_PLACES];
        int length;
        int way = HARD;

        int hearerAt(int place) {
            return place >= 0 && place < length ? hearersInLine[place] : NONE;
        }

        int placeOf(int hearer) {
            for (int place = 0; place < length; place++) {
                if (hearersInLine[place] == hearer) {
                    return place;
                }
            }
            return NONE;
        }

        /** The place it came to; NONE: it is there already; FULL: no place is left. */
        int append(int hearer) {
            if (placeOf(hearer) != NONE) {
                return NONE;
            }
            if (length >= LINE_PLACES) {
                return FULL;
            }
            hearersInLine[length] = hearer;
            return length++;
        }

        /** The place it had; NONE: it was not there. */
        int remove(int hearer) {
            int had = placeOf(hearer);
            if (had == NONE) {
                return NONE;
            }
            length--;
            for (int place = had; place < length; place++) {
                hearersInLine[place] = hearersInLine[place + 1];
            }
            return had;
        }

        /** Into a row of LINE_PLACES; how many there are. */
        int copyLine(int[] row) {
            for (int place = 0; place < length; place++) {
                row[place] = hearersInLine[place];
            }
            return length;
        }
    }

    /** Entries stand from head on and go round the end of the rows. */
    private static final class Queue {
        final int[] bellsLaid = new int[QUEUE_PLACES];
        final long[] valuesLaid = new long[QUEUE_PLACES];
        int head;
        int size;

        boolean append(int bell, long v) {
            if (size >= QUEUE_PLACES) {
                return false;
            }
            int place = (head + size) % QUEUE_PLACES;
            bellsLaid[place] = bell;
            valuesLaid[place] = v;
            size++;
            return true;
        }

        int bellAt(int i) {
            return i >= 0 && i < size ? bellsLaid[(head + i) % QUEUE_PLACES] : NONE;
        }

        int firstBell() {
            return bellsLaid[head];
        }

        long firstValue() {
            return valuesLaid[head];
        }

        void dropFirst() {
            if (size > 0) {
                head = (head + 1) % QUEUE_PLACES;
                size--;
            }
        }
    }
}
