/** Promises 9 (ring), 10 (drain) and 11 (act): ringing, lines that change, failures, steps, the queue. */
public final class RingingTest {
    private static final int NONE = BellHouse.NONE, BAD = BellHouse.BAD, FULL = BellHouse.FULL;
    private static final int DEEP = -15, SPENT = -16;
    private static final Check check = new Check();

    public static void main(String[] args) {
        ringBad();
        inOrder();
        leftBeforeItsTurn();
        leftAndCameAgain();
        comesMeanwhile();
        innerRingingTellsNewcomers();
        cutsItself();
        softGoesOn();
        fourFailuresAreMet();
        hardEnds();
        hardEndsWhoRangIt();
        hardInsideSoft();
        tryRoundRing();
        stopEndsInnermost();
        deepEdge();
        deepEndsAll();
        spentEdge();
        spentEndsAll();
        emptyAheadOfSpent();
        queueOrder();
        queueValues();
        queueStopsAtFailure();
        queueRoom();
        queueRoundTheEnd();
        queueEmptiesWithoutSteps();
        fullByFailures();
        fullAtTheEdge();
        check.end();
    }

    private static void ringBad() {
        House x = new House();
        for (int wrong : new int[] {-1, 6, Integer.MIN_VALUE, Integer.MAX_VALUE}) {
            check.due("9 bad " + wrong, x.ring(wrong, 0), BAD);
        }
        check.due("9 BAD rings nothing", x.count(2), 0);
        check.due("9 empty line", x.ring(5, 0), 0);
        check.due("9 empty line is a ringing", x.count(2), 1);
        check.due("10 empty queue", x.drain(), 0);
        check.due("10 empty queue is no ringing", x.count(2), 1);
    }

    private static void inOrder() {
        House x = new House();
        int share = x.hearer(3, 0, 0);
        x.bind(share, 0);
        x.bind(0, 0);
        x.tally(0, 10);
        check.due("9 in order", x.ring(0, 5), 2);
        check.due("9 share, then add", x.get(0), 7);
        x.leave(share, 0);
        x.bind(share, 0);
        check.due("9 in the other order", x.ring(0, 4), 2);
        check.due("9 add, then share", x.get(0), 2);
        check.due("9 other bells are silent", x.ring(1, 4), 0);
    }

    private static void leftBeforeItsTurn() {
        House x = new House();
        int cut = x.hearer(13, 0, 0);
        x.bind(cut, 0);
        x.bind(0, 0);
        x.bind(1, 0);
        check.due("left: passed over", x.ring(0, 5), 2);
        check.due("left: not told", x.get(0), 0);
        check.due("left: the next is told", x.count(6), 1);
    }

    private static void leftAndCameAgain() {
        House x = new House();
        int cut = x.hearer(13, 0, 0);
        int bind = x.hearer(14, 0, 0);
        int share = x.hearer(3, 0, 0);
        x.bind(cut, 0);
        x.bind(0, 0);
        x.bind(bind, 0);
        x.bind(share, 0);
        x.tally(0, 8);
        check.due("came behind its turn: not told", x.ring(0, 2), 3);
        check.due("came behind its turn: shared alone", x.get(0), 4);
        check.due("came again: last", x.line(0, 3), 0);
        House y = new House();
        int cutBind = y.hearer(11, y.hearer(13, 0, 0), y.hearer(14, 0, 0));
        share = y.hearer(3, 0, 0);
        y.bind(cutBind, 0);
        y.bind(0, 0);
        y.bind(share, 0);
        y.tally(0, 8);
        check.due("came again: told", y.ring(0, 2), 5);
        check.due("came again: at the turn it had, and once", y.get(0), 5);
        check.due("came again: behind", y.line(0, 2), 0);
    }

    private static void comesMeanwhile() {
        House x = new House();
        int bind = x.hearer(14, 0, 0);
        x.bind(bind, 0);
        check.due("comes meanwhile: not told", x.ring(0, 5), 1);
        check.due("comes meanwhile: in line", x.line(0, 1), 0);
        check.due("then told", x.ring(0, 5), 2);
        check.due("told once", x.get(0), 5);
    }

    private static void innerRingingTellsNewcomers() {
        House x = new House();
        int bind = x.hearer(14, 0, 0);
        int again = x.hearer(8, x.hearer(5, 0, 0), 1);
        x.bind(bind, 0);
        x.bind(again, 0);
        check.due("an inner ringing has its own line", x.ring(0, 5), 6);
        check.due("told by the inner alone", x.get(0), 5);
    }

    private static void cutsItself() {
        House x = new House();
        int bind = x.hearer(14, 1, 3);
        int cut = x.hearer(13, bind, 0);
        x.lend(bind, cut);
        x.bind(bind, 0);
        x.bind(0, 0);
        check.due("cuts itself: the next is told", x.ring(0, 5), 2);
        check.due("cuts itself: gone", x.line(0, 0), 0);
        check.due("cuts itself: tally", x.get(0), 5);
    }

    private static void softGoesOn() {
        House x = new House();
        int share = x.hearer(3, 1, 0);
        int none = x.hearer(0, 0, 0);
        x.take(none);
        x.bind(share, 0);
        x.bind(none, 0);
        x.bind(0, 0);
        x.way(0, 1);
        check.due("SOFT goes on", x.ring(0, 0), 2);
        check.due("SOFT misses", x.count(3), 2);
        check.due("SOFT met", x.count(9), 2);
        check.due("SOFT: no failed call", x.count(4), 0);
        check.due("SOFT: the last is told", x.done(0), 1);
    }

    /** ZERO, PLACE, EMPTY and ROOM are met by a TRY and by a SOFT bell alike. */
    private static void fourFailuresAreMet() {
        House x = new House();
        int none = x.hearer(0, 0, 0);
        x.take(none);
        int share = x.hearer(3, 1, 0);
        int point = x.hearer(4, 0, 1);
        int laterMany = doubled(x, x.hearer(6, 5, 0), 5);
        for (int i = 0; i < 12; i++) {
            x.bind(x.hearer(0, 2, 0), 4);
        }
        int bindMore = x.hearer(14, 0, 4);
        int[] failing = {share, point, none, bindMore, laterMany};
        long[] values = {0, 8, 0, 0, 0};
        int[] due = {-11, -12, -13, -14, -14};
        x.way(0, 1);
        for (int i = 0; i < failing.length; i++) {
            check.due("fails alone " + i, x.act(failing[i], values[i]), due[i]);
            x.drain();
            int tried = x.hearer(12, failing[i], 7);
            check.holds("met by a TRY " + i, x.act(tried, values[i]) > 0);
            check.due("TRY tally " + i, x.get(7), i + 1);
            x.bind(failing[i], 0);
            check.holds("met by a SOFT bell " + i, x.ring(0, values[i]) >= 0);
            check.due("misses " + i, x.count(3), i + 1);
            x.leave(failing[i], 0);
        }
        check.due("failed calls", x.count(4), 5);
        check.due("met by tries", x.count(5), 5);
        check.due("met in all", x.count(9), 15);
    }

    private static void hardEnds() {
        House x = new House();
        int share = x.hearer(3, 1, 0);
        x.bind(0, 0);
        x.bind(share, 0);
        x.bind(1, 0);
        check.due("HARD ends", x.ring(0, 0), -11);
        check.due("HARD: what was done stays", x.done(0), 1);
        check.due("HARD: the next is not told", x.done(1), 0);
        check.due("HARD: no miss", x.count(3), 0);
        check.due("HARD: failed call", x.count(4), 1);
        check.due("HARD: met once", x.count(9), 1);
        check.due("HARD: ring again", x.ring(0, 1), 3);
    }

    private static void hardEndsWhoRangIt() {
        House x = new House();
        int share = x.hearer(3, 1, 0);
        int ring = x.hearer(5, 1, 0);
        x.bind(share, 1);
        x.bind(ring, 0);
        x.bind(0, 0);
        check.due("HARD in HARD", x.ring(0, 0), -11);
        check.due("HARD in HARD: the next is not told", x.done(0), 0);
        check.due("HARD in HARD: met once", x.count(9), 1);
        x.way(1, 1);
        check.due("SOFT in HARD", x.ring(0, 0), 3);
        check.due("SOFT in HARD: one miss", x.count(3), 1);
    }

    private static void hardInsideSoft() {
        House x = new House();
        int share = x.hearer(3, 1, 0);
        int ring = x.hearer(5, 1, 0);
        x.bind(share, 1);
        x.bind(1, 1);
        x.bind(ring, 0);
        x.bind(0, 0);
        x.way(0, 1);
        check.due("HARD in SOFT", x.ring(0, 0), 3);
        check.due("HARD in SOFT: the inner is ended", x.count(6), 0);
        check.due("HARD in SOFT: one miss", x.count(3), 1);
        check.due("HARD in SOFT: ringings", x.count(2), 2);
    }

    private static void tryRoundRing() {
        House x = new House();
        int share = x.hearer(3, 1, 0);
        int ring = x.hearer(5, 1, 0);
        int tried = x.hearer(12, ring, 7);
        x.bind(share, 1);
        x.bind(1, 1);
        for (int i = 0; i < 20; i++) {
            check.due("TRY round RING " + i, x.act(tried, 0), 3);
        }
        check.due("TRY round RING: met", x.get(7), 20);
        check.due("TRY round RING: ended", x.count(6), 0);
        check.due("ended ringings are not under way", x.count(2), 20);
    }

    private static void stopEndsInnermost() {
        House x = new House();
        int stopAdd = x.hearer(12, x.hearer(11, 1, 0), 7);
        int ring = x.hearer(5, 1, 0);
        int ringAdd = x.hearer(11, ring, 0);
        int last = x.hearer(0, 2, 0);
        x.bind(stopAdd, 1);
        x.bind(0, 1);
        x.bind(ringAdd, 0);
        x.bind(last, 0);
        check.due("STOP ends the inner ringing", x.ring(0, 5), 7);
        check.due("STOP: the RING went well", x.get(0), 5);
        check.due("STOP: the outer goes on", x.get(2), 5);
        check.due("STOP: counted", x.count(6), 1);
        check.due("STOP: no TRY meets it", x.get(7), 0);
        x.way(1, 1);
        check.due("STOP ends a SOFT one", x.ring(0, 5), 7);
        check.due("STOP is no miss", x.count(3), 0);
    }

    private static void deepEdge() {
        House x = new House();
        int ring = x.hearer(5, 0, 1);
        int seven = x.hearer(8, ring, 7);
        x.bind(seven, 0);
        check.due("8 ringings are well", x.ring(0, 0), 15);
        check.due("8 ringings", x.count(2), 8);
        int more = x.hearer(8, ring, 8);
        x.lend(seven, more);
        check.due("a ninth is DEEP", x.ring(0, 0), DEEP);
        check.due("a ninth does not begin", x.count(2), 16);
        check.due("DEEP is told", x.count(8), 5);
        House y = new House();
        ring = y.hearer(5, 0, 1);
        y.bind(y.hearer(8, ring, 8), 0);
        check.due("act is in no ringing", y.act(ring, 0), DEEP);
        check.due("8 ringings by act", y.count(2), 8);
        check.due("steps by act", y.count(1), 1 + 16);
    }

    private static void deepEndsAll() {
        House x = new House();
        int ring = x.hearer(5, 0, 0);
        int tried = x.hearer(12, ring, 7);
        x.bind(tried, 0);
        x.bind(0, 0);
        x.way(0, 1);
        check.due("DEEP ends all", x.ring(0, 9), DEEP);
        check.due("DEEP: nobody behind is told", x.get(0), 0);
        check.due("DEEP: no miss", x.count(3), 0);
        check.due("DEEP: met once", x.count(9), 1);
        x.leave(tried, 0);
        check.due("DEEP leaves nothing under way", x.ring(0, 9), 1);
        x.leave(0, 0);
        int fine = x.hearer(8, ring, 7);
        x.bind(fine, 0);
        check.due("DEEP leaves all 8", x.ring(0, 0), 15);
    }

    private static void spentEdge() {
        House x = new House();
        int eight = doubled(x, 0, 3);
        int all = doubled(x, eight, 3);
        check.due("127 steps", x.act(all, 0), 127);
        int sixty = doubled(x, 0, 5);
        int rest = x.hearer(11, sixty, x.hearer(11, eight - 2, eight - 2));
        int exact = x.hearer(11, all, rest);
        int stepsOfRest = 1 + 63 + 1 + 2 * 3;
        check.due("rest", x.act(rest, 0), stepsOfRest);
        check.due("199 steps", x.act(exact, 0), 1 + 127 + stepsOfRest);
        int last = x.hearer(8, exact, 99);
        check.due("200 steps are well", x.act(last, 0), 200);
        int over = x.hearer(8, last, 99);
        check.due("201 steps are SPENT", x.act(over, 0), SPENT);
        check.due("SPENT is told", x.count(8), 6);
        check.due("steps ever", x.count(1), 127 + 71 + 199 + 200 + 200);
    }

    /** BOTH of the act before, some times over: 2 to the power of times of it. */
    private static int doubled(House x, int hearer, int times) {
        int top = hearer;
        for (int i = 0; i < times; i++) {
            top = x.hearer(11, top, top);
        }
        return top;
    }

    private static void spentEndsAll() {
        House x = new House();
        int many = doubled(x, 0, 7);
        int tried = x.hearer(12, many, 7);
        x.bind(tried, 0);
        x.bind(1, 0);
        x.way(0, 1);
        check.due("SPENT ends all", x.ring(0, 1), SPENT);
        check.due("SPENT: nobody behind is told", x.count(6), 0);
        check.due("SPENT: no miss", x.count(3), 0);
        check.due("SPENT: 200 steps", x.count(1), 200);
        check.due("SPENT: what did not begin is not counted", x.done(0), x.get(0));
        check.due("SPENT: met once", x.count(9), 1);
        x.leave(tried, 0);
        check.due("SPENT is for one call", x.ring(0, 1), 1);
    }

    private static void emptyAheadOfSpent() {
        House x = new House();
        int first = x.hearer(8, doubled(x, 0, 6), 99);
        x.bind(first, 0);
        x.bind(doubled(x, 0, 5), 0);
        int rest = x.hearer(8, x.hearer(8, x.hearer(11, x.hearer(11, 0, 0), 0), 99), 99);
        x.bind(rest, 0);
        check.due("steps without the last", x.ring(0, 0), 128 + 63 + 7);
        x.bind(x.hearer(8, 0, 99), 0);
        int none = x.hearer(0, 0, 0);
        x.take(none);
        x.bind(none, 0);
        check.due("none is EMPTY behind 200 steps", x.ring(0, 0), -13);
        x.lend(none, 0);
        check.due("one is SPENT behind 200 steps", x.ring(0, 0), SPENT);
    }

    private static void queueOrder() {
        House x = new House();
        int share = x.hearer(3, 0, 0);
        int laterAdd = x.hearer(6, 1, 0);
        int laterShare = x.hearer(6, 2, 0);
        x.bind(0, 1);
        x.bind(share, 2);
        x.bind(laterAdd, 0);
        x.bind(laterShare, 0);
        x.bind(0, 0);
        check.due("queue behind the ringing", x.ring(0, 5), 5);
        check.due("queue in order", x.get(0), 2);
        check.due("queue ringings", x.count(2), 3);
        check.due("queue is empty", x.count(7), 0);
    }

    private static void queueValues() {
        House x = new House();
        int later = x.hearer(6, 1, Integer.MAX_VALUE);
        x.bind(0, 1);
        x.act(later, Long.MAX_VALUE);
        check.due("queue value runs over", x.get(0), Long.MAX_VALUE + Integer.MAX_VALUE);
    }

    private static void queueStopsAtFailure() {
        House x = new House();
        int point = x.hearer(4, 0, 1);
        int laterOne = x.hearer(6, 1, 0);
        int laterTwo = x.hearer(6, 2, -9);
        int laterThree = x.hearer(6, 3, 0);
        x.bind(laterOne, 0);
        x.bind(laterTwo, 0);
        x.bind(laterThree, 0);
        x.bind(point, 1);
        x.bind(point, 2);
        x.bind(point, 3);
        check.due("queue: the second fails", x.ring(0, 5), -12);
        check.due("queue: the failed one is out", x.count(7), 1);
        check.due("queue: the third waits", x.queued(0), 3);
        check.due("queue: the first was rung", x.get(5), 1);
        check.due("queue: no more", x.queued(1), NONE);
        check.due("drain rings the third", x.drain(), 1);
        check.due("drain with its value", x.get(5), 2);
        check.due("drain ends empty", x.count(7), 0);
        x.act(laterTwo, 5);
        check.due("drain may fail", x.count(8), 2);
        x.way(2, 1);
        check.due("a miss lets the queue go on", x.ring(0, 5), 6);
        check.due("misses in the queue", x.count(3), 1);
    }

    private static void queueRoom() {
        House x = new House();
        int later = x.hearer(6, 1, 0);
        int sixteen = doubled(x, later, 4);
        int four = doubled(x, later, 2);
        int twenty = x.hearer(11, sixteen, four);
        int more = x.hearer(11, twenty, later);
        check.due("20 are well", x.act(twenty, 0), 1 + 31 + 7);
        check.due("20 were rung", x.count(2), 20);
        check.due("21 have no ROOM", x.act(more, 0), -14);
        check.due("20 stay", x.count(7), 20);
        check.due("last entry", x.queued(19), 1);
        check.due("behind the last entry", x.queued(20), NONE);
        check.due("no ROOM for one more", x.act(later, 0), -14);
        check.due("20 still stay", x.count(7), 20);
        x.bind(later, 1);
        check.due("an entry that is out leaves room", x.drain(), SPENT);
        check.due("one is out, 19 and the laid ones stay", x.count(7), 19);
        check.due("steps in the queue", x.done(later), 20 + 20 + 2 + 200);
    }

    private static void queueRoundTheEnd() {
        House x = new House();
        int[] later = new int[6];
        for (int bell = 0; bell < 6; bell++) {
            later[bell] = x.hearer(6, bell, 0);
        }
        int point = x.hearer(4, 0, 0);
        int three = x.hearer(11, later[3], x.hearer(11, later[4], later[5]));
        int failing = x.hearer(11, three, point);
        for (int round = 0; round < 30; round++) {
            check.due("round " + round, x.act(failing, -1), -12);
            check.due("round entry 0", x.queued(0), 3);
            check.due("round entry 1", x.queued(1), 4);
            check.due("round entry 2", x.queued(2), 5);
            check.due("round entry 3", x.queued(3), NONE);
            check.due("round drain", x.drain(), 0);
        }
        check.due("round ringings", x.count(2), 90);
    }

    private static void queueEmptiesWithoutSteps() {
        House x = new House();
        int later = x.hearer(6, 1, 0);
        int many = doubled(x, later, 5);
        x.act(many, 0);
        check.due("a full queue", x.count(7), 20);
        x.take(0);
        x.bind(0, 1);
        x.way(1, 1);
        check.due("a queue of misses makes no steps", x.drain(), 0);
        check.due("20 misses", x.count(3), 20);
        check.due("empty", x.count(7), 0);
    }

    private static void fullByFailures() {
        House x = new House();
        int none = x.hearer(0, 0, 0);
        x.take(none);
        int tried = x.hearer(12, none, 0);
        int top = doubled(x, tried, 6);
        x.tally(0, 0);
        for (int i = 0; i < 31; i++) {
            check.due("64 are met " + i, x.act(top, 0), 127);
        }
        check.due("met", x.count(9), 31 * 64);
        for (int i = 31 * 64; i < 1999; i++) {
            check.due("one is met", x.act(none, 0), -13);
        }
        check.due("met 1999", x.count(9), 1999);
        check.due("1999: ring", x.ring(5, 0), 0);
        check.due("1999: drain", x.drain(), 0);
        check.due("1999: a call may go beyond", x.act(top, 0), 127);
        check.due("met more", x.count(9), 1999 + 64);
        int steps = x.count(1);
        int rung = x.count(2);
        check.due("FULL: ring", x.ring(5, 0), FULL);
        check.due("FULL: drain", x.drain(), FULL);
        check.due("FULL: act", x.act(none, 0), FULL);
        check.due("FULL: BAD ahead, ring", x.ring(6, 0), BAD);
        check.due("FULL: BAD ahead, act", x.act(40, 0), BAD);
        check.due("FULL: no steps", x.count(1), steps);
        check.due("FULL: no ringing", x.count(2), rung);
        check.due("FULL: no failed call more", x.count(4), 1999 - 31 * 64);
        check.due("FULL: others go on", x.hearer(0, 0, 0), x.count(0) - 1);
        check.due("FULL: tally goes on", x.tally(0, 1), 1);
    }

    private static void fullAtTheEdge() {
        House x = new House();
        int none = x.hearer(0, 0, 0);
        x.take(none);
        int tried = x.hearer(12, none, 0);
        int sixteen = doubled(x, tried, 4);
        for (int i = 0; i < 125; i++) {
            check.due("16 are met " + i, x.act(sixteen, 0), 31);
        }
        check.due("met 2000", x.count(9), 2000);
        check.due("2000: act is FULL", x.act(1, 0), FULL);
        check.due("2000: ring is FULL", x.ring(0, 0), FULL);
        check.due("2000: drain is FULL", x.drain(), FULL);
        check.due("2000: nothing is changed", x.count(6), 0);
    }
}
