/** The document's sentences on ringing, steps, failures, the queue, and on what calls answer. */
final class RingingEdges extends Edges {
    RingingEdges(Sentences sentences) {
        super(sentences);
    }

    @Override
    void all() {
        inLineAsItBegins();
        inOrder();
        actsThatTheyHaveThen();
        passedOver();
        passedOverAtItsTurn();
        leftAndCameAgain();
        leftAndCameAgainLate();
        noActIsEmpty();
        othersAreNotTold();
        othersAreToldByTheNext();
        deep();
        deepAtEachBell();
        deepOneInTheOther();
        deepAfterThoseThatEnded();
        stepIsEachAct();
        spent();
        spentInTheCall();
        failureNumbers();
        endsUpToATry();
        softGoesOn();
        softMeetsEach();
        hardIsEnded();
        hardEndsWhoRangIt();
        deepEndsAll();
        spentEndsAll();
        whatWasDoneStays();
        met();
        bellAndValueAsTold();
        asLongAsNothingFailed();
        queueTillItIsEmpty();
        queueGoesRound();
        queueOfMostEntries();
        firstThatFits();
        badChangesNothing();
        fullAt2000();
        fullBeyond2000();
        fullIsForThoseThatRing();
        fullChangesNothing();
        toldByMinusTenLess();
    }

    private void inLineAsItBegins() {
        sentence("Terms",
                "RINGING a BELL with v: those HEARERS that are in its LINE as it begins, in order, do their ACTS");
        House x = new House();
        due("nobody in line", x.ring(0, 5), 0);
        due("a RINGING nevertheless", x.count(2), 1);
        int first = twelveInLine(x, 0);
        due("twelve in line", x.ring(0, 0), 12);
        due("each of them once", x.get(1), 4095);
        for (int hearer = first; hearer < first + 11; hearer++) {
            x.leave(hearer, 0);
        }
        due("one in line", x.ring(0, 5), 1);
        due("with v", x.get(1), 4095 + 2048 + 5);
        x.leave(first + 11, 0);
        due("again nobody", x.ring(0, 5), 0);
    }

    private void inOrder() {
        sentence("Terms",
                "RINGING a BELL with v: those HEARERS that are in its LINE as it begins, in order, do their ACTS");
        for (int stopAt = 0; stopAt < 12; stopAt++) {
            House x = new House();
            int first = twelveInLine(x, 3);
            x.lend(first + stopAt, 1);
            due("in order, with a STOP at " + stopAt, x.ring(3, 0), stopAt + 1);
            due("those ahead of " + stopAt, x.get(1), (1 << stopAt) - 1);
        }
    }

    private void actsThatTheyHaveThen() {
        sentence("Terms", "(those that they have then) with v;");
        House x = new House();
        int add = x.hearer(ADD, 1, 0);
        int other = x.hearer(ADD, 2, 0);
        bindAll(x, 0, add, 0);
        due("its own", x.ring(0, 5), 2);
        x.lend(add, other);
        due("a lent one", x.ring(0, 5), 2);
        due("once the own", x.get(1), 5);
        due("once the lent one", x.get(2), 5);
        x.take(other);
        due("lent ones stay", x.ring(0, 5), 2);
        due("twice the lent one", x.get(2), 10);
        x.take(add);
        due("none", x.ring(0, 5), EMPTY);
        x.lend(add, 0);
        due("lent again", x.ring(0, 5), 2);
        due("both add to tally 0", x.get(0), 15 + 10);
    }

    private void passedOver() {
        sentence("Terms", "one that is not in it when its turn comes is passed over");
        House x = new House();
        int told = x.hearer(ADD, 1, 0);
        int cut = x.hearer(CUT, told, 0);
        bindAll(x, 0, cut, told, 0);
        due("it left ahead of its turn", x.ring(0, 5), 2);
        due("it is passed over", x.get(1), 0);
        due("the next is told", x.get(0), 5);
        House y = new House();
        told = y.hearer(ADD, 1, 0);
        cut = y.hearer(CUT, told, 0);
        bindAll(y, 0, told, cut, 0);
        due("it left behind its turn", y.ring(0, 5), 3);
        due("it was told", y.get(1), 5);
        due("next time it is not there", y.ring(0, 5), 2);
        House z = new House();
        int none = noAct(z);
        cut = z.hearer(CUT, none, 0);
        bindAll(z, 0, cut, none, 0);
        due("one that has no act is passed over, too", z.ring(0, 5), 2);
    }

    private void passedOverAtItsTurn() {
        sentence("Terms", "one that is not in it when its turn comes is passed over");
        House x = new House();
        int last = twelveInLine(x, 0) + 11;
        int cut = x.hearer(CUT, last, 0);
        x.lend(last - 1, cut);
        due("the twelfth left at the turn of the eleventh", x.ring(0, 0), 11);
        due("ten have added", x.get(1), 1023);
        due("eleven are in line", x.line(0, 11), NONE);
        House y = new House();
        int itself = y.hearer(ADD, 1, 0);
        cut = y.hearer(CUT, itself, 0);
        y.lend(itself, cut);
        bindAll(y, 0, itself, 0, 1);
        due("it leaves at its own turn: nobody behind it is left out", y.ring(0, 5), 3);
        due("the next is told", y.get(0), 5);
        due("next time it is not there", y.ring(0, 5), 2);
        House z = new House();
        int first = z.hearer(ADD, 1, 0);
        cut = z.hearer(CUT, first, 0);
        bindAll(z, 0, first, cut, 0, 1);
        due("one that was told leaves: nobody behind it is left out", z.ring(0, 5), 4);
        due("the next is told", z.get(0), 5);
    }

    private void leftAndCameAgain() {
        sentence("Terms", "(one that left and came again is told, at the turn that it had);");
        House x = new House();
        int add = x.hearer(ADD, 1, 0);
        int share = x.hearer(SHARE, 1, 0);
        int again = x.hearer(BOTH, x.hearer(CUT, add, 0), x.hearer(BIND, add, 0));
        bindAll(x, 0, again, add, share);
        x.tally(1, 8);
        due("told, and once", x.ring(0, 4), 5);
        due("at the turn that it had: 8 and 4, by 4", x.get(1), 3);
        due("its place is the last", x.line(0, 2), add);
        x.tally(1, 8);
        due("next time at its new turn", x.ring(0, 4), 5);
        due("8 by 4, and 4", x.get(1), 6);
    }

    private void leftAndCameAgainLate() {
        sentence("Terms", "(one that left and came again is told, at the turn that it had);");
        House x = new House();
        int add = x.hearer(ADD, 1, 0);
        int cut = x.hearer(CUT, add, 0);
        int bind = x.hearer(BIND, add, 0);
        bindAll(x, 0, cut, add, bind, 0);
        due("came again behind its turn: not told", x.ring(0, 4), 3);
        due("it has not added", x.get(1), 0);
        due("it is in line", x.line(0, 3), add);
        House y = new House();
        add = y.hearer(ADD, 1, 0);
        int again = y.hearer(BOTH, y.hearer(CUT, add, 0), y.hearer(BIND, add, 0));
        bindAll(y, 0, add, again, 0);
        due("told, then left and came again: told once", y.ring(0, 4), 5);
        due("it has added once", y.get(1), 4);
    }

    private void noActIsEmpty() {
        sentence("Terms", "one that has no ACT: EMPTY.");
        House x = new House();
        int none = noAct(x);
        bindAll(x, 0, 0, none, 1);
        due("EMPTY", x.ring(0, 5), EMPTY);
        due("who was ahead of it", x.get(0), 5);
        due("who was behind it", x.count(6), 0);
        due("no STEP for it", x.count(1), 1);
        x.way(0, SOFT);
        due("a SOFT bell goes on", x.ring(0, 5), 2);
        due("a MISS", x.count(3), 1);
        x.lend(none, 0);
        due("it has an act", x.ring(0, 5), 3);
    }

    private void othersAreNotTold() {
        sentence("Terms", "Others that come meanwhile are not told.");
        House x = new House();
        int comes = x.hearer(ADD, 1, 0);
        int bind = x.hearer(BIND, comes, 0);
        bindAll(x, 0, 0, bind);
        due("it comes while the last is told", x.ring(0, 5), 2);
        due("it is in line", x.line(0, 2), comes);
        due("it has not added", x.get(1), 0);
        due("next time it is told", x.ring(0, 5), 3);
        due("it has added once", x.get(1), 5);
        House y = new House();
        comes = y.hearer(ADD, 1, 0);
        int cut = y.hearer(CUT, 1, 0);
        bind = y.hearer(BIND, comes, 0);
        bindAll(y, 0, y.hearer(BOTH, cut, bind), 1, 0);
        due("nor in the turn of one that left", y.ring(0, 5), 4);
        due("it has not added", y.get(1), 0);
    }

    private void othersAreToldByTheNext() {
        sentence("Terms", "Others that come meanwhile are not told.");
        House x = new House();
        int comes = x.hearer(ADD, 1, 0);
        int bind = x.hearer(BIND, comes, 0);
        int again = x.hearer(FIRST, x.hearer(RING, 0, 0), 1);
        bindAll(x, 0, bind, again);
        due("a RINGING that begins after it came", x.ring(0, 5), 6);
        due("tells it, the one under way does not", x.get(1), 5);
        House y = new House();
        comes = y.hearer(ADD, 1, 0);
        bind = y.hearer(BIND, comes, 1);
        int later = y.hearer(LATER, 1, 0);
        bindAll(y, 0, bind, later);
        due("so does THE QUEUE", y.ring(0, 5), 3);
        due("it has added", y.get(1), 5);
    }

    private void deep() {
        sentence("Terms", "DEEP: 8 RINGINGS are under way, one in the other, already.");
        House x = new House();
        int ring = x.hearer(RING, 0, 1);
        x.bind(x.hearer(FIRST, ring, 7), 0);
        x.bind(0, 0);
        due("an eighth", x.ring(0, 0), 8 + 7 + 8);
        due("8 RINGINGS", x.count(2), 8);
        due("each with its value", x.get(0), 28);
        House y = new House();
        ring = y.hearer(RING, 0, 1);
        y.bind(y.hearer(FIRST, ring, 8), 0);
        y.bind(0, 0);
        due("a ninth", y.ring(0, 0), DEEP);
        due("it does not begin", y.count(2), 8);
        due("the RING is a STEP", y.count(1), 8 + 8);
        due("in the next call none is under way", y.ring(0, 0), 2);
        House z = new House();
        ring = z.hearer(RING, 0, 0);
        z.bind(z.hearer(FIRST, ring, 7), 0);
        due("by act the first RINGING is the act's: an eighth", z.act(ring, 0), 1 + 8 + 7);
        due("8 RINGINGS by act", z.count(2), 8);
        z.bind(ring, 1);
        due("bell 1 rings bell 0, which rings no more", z.ring(1, 0), 2);
        z.bind(z.hearer(FIRST, ring, 7), 0);
        due("a ninth of two bells", z.ring(1, 0), DEEP);
    }

    private void deepAtEachBell() {
        sentence("Terms", "DEEP: 8 RINGINGS are under way, one in the other, already.");
        for (int bell = 0; bell <= 5; bell++) {
            House x = new House();
            due("an eighth at bell " + bell, x.ring(ringsInItself(x, bell, 7), 0), 15);
            int laying = laying(x, ringsInItself(x, (bell + 1) % 6, 7));
            x.act(laying, 0);
            due("an eighth by THE QUEUE, after bell " + bell, x.drain(), 15);
            due("16 RINGINGS", x.count(2), 16);
            laying = laying(x, ringsInItself(x, (bell + 2) % 6, 8));
            x.act(laying, 0);
            due("a ninth by THE QUEUE, after bell " + bell, x.drain(), DEEP);
            due("a ninth at bell " + (bell + 3) % 6, x.ring(ringsInItself(x, (bell + 3) % 6, 8), 0), DEEP);
        }
    }

    /** The bell, with a hearer in line that rings it the first so many times. */
    private static int ringsInItself(House x, int bell, int times) {
        x.bind(x.hearer(FIRST, x.hearer(RING, bell, 0), times), bell);
        return bell;
    }

    private void deepAfterThoseThatEnded() {
        sentence("Terms", "DEEP: 8 RINGINGS are under way, one in the other, already.");
        int[] due = {1, ZERO, EMPTY, DEEP, SPENT};
        for (int which = 0; which < due.length; which++) {
            House x = new House();
            int deep = x.hearer(RING, 0, 0);
            int[] ends = {1, x.hearer(SHARE, 1, 0), noAct(x), deep, doubled(x, 0, 7)};
            x.bind(ends[which], 0);
            for (int time = 1; time <= 9; time++) {
                due("a RINGING that ends by " + due[which] + ", time " + time, x.ring(0, 0), due[which]);
            }
            due("after them there may be eight", x.ring(ringsInItself(x, 5, 7), 0), 15);
        }
    }

    private void deepOneInTheOther() {
        sentence("Terms", "DEEP: 8 RINGINGS are under way, one in the other, already.");
        House x = new House();
        int ring = x.hearer(RING, 1, 0);
        due("64 RINGINGS, one behind the other", x.act(doubled(x, ring, 6), 0), 127);
        due("RINGINGS", x.count(2), 64);
        x.bind(x.hearer(RING, 2, 0), 0);
        x.bind(doubled(x, x.hearer(RING, 3, 0), 4), 2);
        due("16 in one in one", x.ring(0, 0), 1 + 31);
        House y = new House();
        int later = y.hearer(LATER, 0, 0);
        y.bind(y.hearer(FIRST, later, 30), 0);
        due("31 by THE QUEUE are not in one another", y.ring(0, 0), 61);
        due("RINGINGS by THE QUEUE", y.count(2), 31);
        House z = new House();
        ring = z.hearer(RING, 0, 0);
        z.bind(z.hearer(FIRST, ring, 7), 0);
        int ringTwice = z.hearer(BOTH, ring, z.hearer(RING, 1, 0));
        due("when eight have ended, another", z.act(ringTwice, 0), 1 + 1 + 15 + 1);
        int failingInside = z.hearer(FIRST, z.hearer(BOTH, ring, noAct(z)), 7);
        z.bind(failingInside, 1);
        int tried = z.hearer(TRY, z.hearer(RING, 1, 0), 7);
        for (int time = 1; time <= 7; time++) {
            due("those that a FAILURE ended are not under way, time " + time, z.act(tried, 0), 6);
        }
        due("and an eighth of a new chain", z.act(z.hearer(RING, 2, 0), 0), 1);
    }

    private void stepIsEachAct() {
        sentence("Terms", "A STEP is each ACT that begins (also those that ACTS do):");
        House x = new House();
        x.tally(7, 1);
        due("one", x.act(0, 0), 1);
        due("STOP is one", x.act(1, 0), 1);
        due("FIRST and its own", x.act(x.hearer(FIRST, 0, 1), 0), 2);
        due("FIRST alone", x.act(x.hearer(FIRST, 0, 0), 0), 1);
        due("EACH and its own", x.act(x.hearer(EACH, 0, 1), 0), 2);
        due("EACH alone", x.act(x.hearer(EACH, 0, 2), 0), 1);
        due("IF and its own", x.act(x.hearer(IF, 0, 7), 0), 2);
        due("IF alone", x.act(x.hearer(IF, 0, 6), 0), 1);
        due("BOTH and two", x.act(x.hearer(BOTH, 0, 0), 0), 3);
        due("TRY and its own", x.act(x.hearer(TRY, 0, 6), 0), 2);
        int share = x.hearer(SHARE, 1, 0);
        due("TRY and one that fails", x.act(x.hearer(TRY, share, 6), 0), 2);
        x.bind(0, 5);
        due("RING and who is told", x.act(x.hearer(RING, 5, 0), 0), 2);
        due("LATER and who is told", x.act(x.hearer(LATER, 5, 0), 0), 2);
        due("one that fails up to the call", x.act(share, 0), ZERO);
        due("an ACT that is none", x.act(noAct(x), 0), EMPTY);
        due("all of them", x.count(1), 23);
    }

    private void spent() {
        sentence("Terms", "SPENT: 200 were made in the call, and one more would be.");
        for (int steps = 198; steps <= 202; steps++) {
            House x = new House();
            int answer = x.act(making(x, steps), 0);
            due(steps + " steps", answer, steps <= 200 ? steps : SPENT);
            due(steps + " steps ever", x.count(1), Math.min(steps, 200));
        }
        House x = new House();
        bindAll(x, 0, making(x, 199), 0);
        due("the 200th by the next HEARER", x.ring(0, 0), 200);
        x.bind(1, 0);
        due("the 201st by the next HEARER", x.ring(0, 0), SPENT);
        due("it does not begin", x.done(1), 0);
        due("the 200th did", x.count(1), 400);
        House y = new House();
        int all = making(y, 200);
        int none = noAct(y);
        bindAll(y, 0, all, none);
        due("an ACT that is none would be no STEP", y.ring(0, 0), EMPTY);
    }

    private void spentInTheCall() {
        sentence("Terms", "SPENT: 200 were made in the call, and one more would be.");
        House x = new House();
        int later = x.hearer(LATER, 0, 0);
        x.bind(x.hearer(FIRST, later, 99), 0);
        due("200 with THE QUEUE", x.act(later, 0), 1 + 2 * 99 + 1);
        House y = new House();
        later = y.hearer(LATER, 0, 0);
        y.bind(y.hearer(FIRST, later, 100), 0);
        due("201 with THE QUEUE", y.ring(0, 0), SPENT);
        due("THE QUEUE was emptied", y.count(7), 0);
        House z = new House();
        int all = making(z, 200);
        for (int call = 1; call <= 3; call++) {
            due("each call has 200, call " + call, z.act(all, 0), 200);
        }
        int over = z.hearer(FIRST, all, MAX);
        due("SPENT", z.act(over, 0), SPENT);
        due("after SPENT there are 200", z.act(all, 0), 200);
        x = new House();
        all = making(x, 200);
        x.act(x.hearer(BOTH, x.hearer(LATER, 2, 0), noAct(x)), 0);
        due("a RINGING without a STEP is not SPENT", x.act(all, 0), 200);
        due("it began", x.count(2), 1);
    }

    private void failureNumbers() {
        sentence("Terms", "A FAILURE (1 ZERO, 2 PLACE, 3 EMPTY, 4 ROOM, 5 DEEP, 6 SPENT)");
        House x = new House();
        int share = x.hearer(SHARE, 1, 0);
        int point = x.hearer(POINT, 0, 0);
        int none = noAct(x);
        int ring = x.hearer(RING, 0, 0);
        x.bind(ring, 0);
        due("none yet", x.count(8), 0);
        failed(x, "ZERO", x.act(share, 0), 1);
        failed(x, "PLACE", x.act(point, 8), 2);
        failed(x, "EMPTY", x.act(none, 0), 3);
        failed(x, "ROOM by LATER", x.act(doubled(x, x.hearer(LATER, 1, 0), 5), 0), 4);
        failed(x, "DEEP", x.act(ring, 0), 5);
        failed(x, "SPENT", x.act(doubled(x, 0, 7), 0), 6);
        House y = new House();
        twelveInLine(y, 0);
        failed(y, "ROOM by BIND", y.act(y.hearer(BIND, 0, 0), 0), 4);
    }

    private void failed(House x, String what, int answer, int failure) {
        due(what, answer, -10 - failure);
        due(what + " is told", x.count(8), failure);
    }

    private void endsUpToATry() {
        sentence("Terms", "ends the ACT and all that do it, up to a TRY,");
        House x = new House();
        x.tally(7, 1);
        int share = x.hearer(SHARE, 1, 0);
        int between = x.hearer(BOTH, share, 1);
        between = x.hearer(BOTH, x.hearer(IF, x.hearer(EACH, x.hearer(FIRST, between, 9), 1), 7), 1);
        int inner = x.hearer(TRY, between, 5);
        int outer = x.hearer(TRY, x.hearer(BOTH, inner, 0), 6);
        due("up to the inner TRY", x.act(outer, 0), 1 + 1 + 1 + 6 + 1);
        due("nothing behind it is done", x.count(6), 0);
        due("the inner TRY meets it", x.get(5), 1);
        due("the outer one does not", x.get(6), 0);
        due("what is behind the inner TRY is done", x.done(0), 1);
        due("without a TRY up to the call", x.act(between, 0), ZERO);
        x.bind(between, 0);
        x.bind(0, 0);
        int tryRing = x.hearer(TRY, x.hearer(RING, 0, 0), 6);
        due("through a HARD bell to a TRY", x.act(tryRing, 0), 8);
        due("that TRY meets it", x.get(6), 1);
        due("who is behind in the line is not told", x.done(0), 1);
    }

    private void softGoesOn() {
        sentence("Terms", "or to the RINGING: a SOFT BELL counts a MISS and goes on with the next HEARER;");
        House x = new House();
        int share = x.hearer(SHARE, 1, 0);
        int shareAdd = x.hearer(BOTH, share, 0);
        int next = x.hearer(ADD, 2, 1);
        x.way(0, SOFT);
        bindAll(x, 0, shareAdd, next, share);
        due("goes on with the next", x.ring(0, 0), 2 + 1 + 1);
        due("the next is told", x.get(2), 1);
        due("what was behind in the act is not done", x.done(0), 0);
        due("a MISS each", x.count(3), 2);
        due("no failed call", x.count(4), 0);
        int ring = x.hearer(RING, 0, 0);
        bindAll(x, 1, ring, next);
        due("who RANG it goes on", x.ring(1, 0), 1 + 4 + 1);
        due("MISSES", x.count(3), 4);
        due("well: no MISS", x.ring(0, 1), 5);
        due("MISSES stay", x.count(3), 4);
    }

    private void softMeetsEach() {
        sentence("Terms", "or to the RINGING: a SOFT BELL counts a MISS and goes on with the next HEARER;");
        House x = new House();
        x.way(0, SOFT);
        int none = noAct(x);
        bindAll(x, 0, x.hearer(SHARE, 1, 0), x.hearer(POINT, 0, 0), none, x.hearer(BIND, 0, 1));
        due("well with 1", x.ring(0, 1), 3);
        due("one MISS, EMPTY", x.count(3), 1);
        x.leave(0, 1);
        twelveInLine(x, 1);
        due("ZERO, EMPTY, ROOM", x.ring(0, 0), 3);
        due("three MISSES more", x.count(3), 4);
        due("PLACE, EMPTY, ROOM", x.ring(0, 8), 3);
        due("three MISSES more again", x.count(3), 7);
        due("no failed call", x.count(4), 0);
        House y = new House();
        y.way(2, SOFT);
        for (int i = 0; i < 12; i++) {
            y.bind(noAct(y), 2);
        }
        due("all twelve are missed", y.ring(2, 0), 0);
        due("MISSES", y.count(3), 12);
    }

    private void hardIsEnded() {
        sentence("Terms", "a HARD one is ended, too, and with it who RANG it.");
        House x = new House();
        int share = x.hearer(SHARE, 1, 0);
        bindAll(x, 0, 0, share, 1);
        due("ended", x.ring(0, 0), ZERO);
        due("who is behind is not told", x.count(6), 0);
        due("no MISS", x.count(3), 0);
        due("STEPS up to it", x.count(1), 2);
        due("it may be rung again", x.ring(0, 1), 3);
    }

    private void hardEndsWhoRangIt() {
        sentence("Terms", "a HARD one is ended, too, and with it who RANG it.");
        House x = new House();
        int share = x.hearer(SHARE, 1, 0);
        x.bind(share, 2);
        bindAll(x, 1, x.hearer(BOTH, x.hearer(RING, 2, 0), 0), 1);
        bindAll(x, 0, x.hearer(RING, 1, 0), 1);
        due("HARD in HARD in HARD", x.ring(0, 0), ZERO);
        due("nobody behind is told", x.count(6) + x.done(0), 0);
        due("met once", x.count(9), 1);
        x.way(0, SOFT);
        due("HARD in HARD in SOFT", x.ring(0, 0), 5);
        due("in the SOFT one the next is told", x.count(6), 1);
        due("not what is behind in the HARD ones", x.done(0), 0);
        due("one MISS", x.count(3), 1);
        x.way(0, HARD);
        x.way(1, SOFT);
        due("HARD in SOFT in HARD", x.ring(0, 0), 1 + 3 + 1 + 1);
        due("one MISS more", x.count(3), 2);
        x.way(2, SOFT);
        due("SOFT: who RANG it goes on", x.ring(0, 0), 1 + 3 + 1 + 1 + 1);
        due("behind in BOTH", x.done(0), 1);
    }

    private void deepEndsAll() {
        sentence("Terms", "DEEP and SPENT end all.");
        House x = new House();
        int tried = x.hearer(TRY, x.hearer(RING, 0, 0), 7);
        int later = x.hearer(LATER, 1, 0);
        x.way(0, SOFT);
        bindAll(x, 0, later, tried, 1);
        due("DEEP", x.ring(0, 0), DEEP);
        due("DEEP: nobody behind is told", x.count(6), 0);
        due("DEEP: no TRY meets it", x.get(7) + x.count(5), 0);
        due("DEEP: no MISS", x.count(3), 0);
        due("DEEP: THE QUEUE waits", x.count(7), 8);
        due("DEEP: met by the call", x.count(9), 1);
        due("DEEP: a call that FAILED", x.count(4), 1);
    }

    private void spentEndsAll() {
        sentence("Terms", "DEEP and SPENT end all.");
        House x = new House();
        int tried = x.hearer(TRY, making(x, 201), 7);
        int later = x.hearer(LATER, 1, 0);
        x.way(0, SOFT);
        bindAll(x, 0, later, tried, 1);
        int none = noAct(x);
        x.bind(none, 0);
        due("SPENT", x.ring(0, 0), SPENT);
        due("SPENT: nobody behind is told", x.count(6), 0);
        due("SPENT: no TRY meets it", x.get(7) + x.count(5), 0);
        due("SPENT: no MISS", x.count(3), 0);
        due("SPENT: THE QUEUE waits", x.count(7), 1);
        due("SPENT: met by the call", x.count(9), 1);
        due("SPENT: a call that FAILED", x.count(4), 1);
    }

    private void whatWasDoneStays() {
        sentence("Terms", "What was done stays.");
        House x = new House();
        int add = x.hearer(ADD, 1, 1);
        int share = x.hearer(SHARE, 2, 0);
        int bind = x.hearer(BIND, 0, 4);
        int cut = x.hearer(CUT, add, 0);
        int later = x.hearer(LATER, 5, 0);
        bindAll(x, 0, add, bind, cut, later, share, 1);
        due("fails at the end", x.ring(0, 0), ZERO);
        due("the tally", x.get(1), 1);
        due("who came", x.line(4, 0), 0);
        due("who left", x.line(0, 0), bind);
        due("what was laid", x.queued(0), 5);
        due("the STEPS", x.count(1), 5);
        due("the RINGING", x.count(2), 1);
        due("the times", x.done(add), 1);
        int tried = x.hearer(TRY, x.hearer(BOTH, add, share), 7);
        due("a TRY", x.act(tried, 0), 4);
        due("the tally, with a TRY", x.get(1), 2);
        House y = new House();
        due("with SPENT", y.act(doubled(y, y.hearer(ADD, 1, 1), 7), 0), SPENT);
        due("the tally, with SPENT", y.get(1), y.done(2));
        due("STEPS, with SPENT", y.count(1), 200);
    }

    private void met() {
        sentence("Terms", "(MET is a FAILURE by the TRY, the SOFT BELL, or the call that it came up to.)");
        House x = new House();
        int share = x.hearer(SHARE, 1, 0);
        int tried = x.hearer(TRY, x.hearer(TRY, share, 7), 7);
        x.act(tried, 0);
        due("by the TRY, once", x.count(9), 1);
        x.way(0, SOFT);
        x.way(1, SOFT);
        x.bind(share, 0);
        x.bind(x.hearer(RING, 0, 0), 1);
        x.ring(1, 0);
        due("by the SOFT bell, once", x.count(9), 2);
        x.way(0, HARD);
        x.ring(0, 0);
        due("by the call", x.count(9), 3);
        x.act(share, 0);
        due("by the call of act", x.count(9), 4);
        x.ring(1, 0);
        due("by the SOFT bell outside", x.count(9), 5);
        due("of them MISSES", x.count(3), 2);
        due("of them by tries", x.count(5), 1);
        due("of them calls that FAILED", x.count(4), 2);
        x.act(1, 0);
        due("a STOP is no FAILURE", x.count(9), 5);
    }

    private void bellAndValueAsTold() {
        sentence("Terms", "A call that RINGS: BELL and VALUE as told;");
        House x = new House();
        for (int bell = 0; bell <= 5; bell++) {
            x.bind(x.hearer(ADD, bell, 0), bell);
        }
        for (int bell = 0; bell <= 5; bell++) {
            due("ring " + bell, x.ring(bell, 10 + bell), 1);
        }
        for (int bell = 0; bell <= 5; bell++) {
            due("with its value " + bell, x.get(bell), 10 + bell);
        }
        x.ring(5, LEAST);
        due("the least", x.get(5), LEAST + 15);
        x.ring(0, GREATEST);
        due("the greatest", x.get(0), GREATEST + 10);
    }

    private void asLongAsNothingFailed() {
        sentence("Terms", "behind it, as long as nothing has FAILED up to the call,");
        House x = new House();
        int later = x.hearer(LATER, 1, 0);
        int share = x.hearer(SHARE, 2, 0);
        x.bind(0, 1);
        bindAll(x, 0, later, share);
        due("the RINGING fails", x.ring(0, 0), ZERO);
        due("THE QUEUE waits", x.count(7), 1);
        due("it was not rung", x.done(0), 0);
        due("the act fails", x.act(share, 0), ZERO);
        due("THE QUEUE waits again", x.count(7), 1);
        due("a call that does well", x.ring(5, 0), 1);
        due("rings it", x.done(0), 1);
        due("THE QUEUE is empty", x.count(7), 0);
        x.way(0, SOFT);
        due("a MISS is no FAILURE up to the call", x.ring(0, 0), 3);
        due("it was rung", x.done(0), 2);
        int tried = x.hearer(BOTH, later, x.hearer(TRY, share, 7));
        due("nor is one that a TRY meets", x.act(tried, 0), 5);
        due("it was rung, too", x.done(0), 3);
        int stopped = x.hearer(BOTH, later, 1);
        due("nor is a STOP", x.act(stopped, 0), 4);
        due("it was rung as well", x.done(0), 4);
    }

    private void queueTillItIsEmpty() {
        sentence("Terms", "the first of THE QUEUE is taken out and RUNG, again and again, till it is empty.");
        House x = new House();
        int share = x.hearer(SHARE, 3, 0);
        bindAll(x, 1, share, 1);
        x.bind(0, 2);
        int one = laying(x, 1);
        int two = laying(x, 2);
        x.act(one, 5);
        x.act(one, 0);
        x.act(two, 7);
        due("the second entry fails", x.drain(), ZERO);
        due("the first was rung", x.count(6), 1);
        due("both are taken out", x.count(7), 1);
        due("the third is the first now", x.queued(0), 2);
        due("it is not rung yet", x.get(0), 0);
        due("the next call rings it", x.ring(0, 0), 1);
        due("with its value", x.get(0), 7);
        due("it is empty", x.count(7), 0);
        due("an empty one", x.drain(), 0);
        due("no RINGING", x.count(2), 4);
    }

    private void queueGoesRound() {
        sentence("Terms", "the first of THE QUEUE is taken out and RUNG, again and again, till it is empty.");
        House x = new House();
        int later = x.hearer(LATER, 0, 1);
        bindAll(x, 0, x.hearer(FIRST, later, 50), 0);
        due("what is laid meanwhile is rung, too", x.ring(0, 0), 2 * 51 + 50);
        due("each with its value", x.get(0), 50 * 51 / 2);
        due("it is empty", x.count(7), 0);
        House y = new House();
        int one = laying(y, 1);
        y.bind(y.hearer(LATER, 2, 0), 1);
        y.bind(y.hearer(SHARE, 0, 0), 2);
        y.bind(0, 3);
        int three = laying(y, 3);
        y.act(one, 2);
        y.act(three, 8);
        due("what is laid meanwhile goes behind", y.drain(), 3);
        due("8, by 2", y.get(0), 4);
        for (int i = 0; i < 20; i++) {
            y.act(one, 2);
        }
        due("20 are there", y.act(one, 2), ROOM);
        due("the first is taken out: what it lays has room", y.drain(), 20 + 20);
        House z = new House();
        int many = doubled(z, z.hearer(LATER, 1, 0), 5);
        due("more than 20", z.act(many, 0), ROOM);
        z.way(1, SOFT);
        for (int i = 0; i < 12; i++) {
            z.bind(noAct(z), 1);
        }
        due("20 entries, each of 12 MISSES", z.drain(), 0);
        due("MISSES", z.count(3), 240);
        due("then it is empty", z.queued(0), NONE);
    }

    /** 20 that are there and one for each of 200 STEPS: no call can take out more. */
    private void queueOfMostEntries() {
        sentence("Terms", "the first of THE QUEUE is taken out and RUNG, again and again, till it is empty.");
        House x = new House();
        int silent = laying(x, 2);
        int again = laying(x, 1);
        x.bind(x.hearer(LATER, 1, 0), 1);
        for (int i = 0; i < 19; i++) {
            x.act(silent, 0);
        }
        x.act(again, 0);
        due("the 220th entry would make the 201st STEP", x.drain(), SPENT);
        due("220 were taken out and RUNG", x.count(2), 220);
        due("none is left", x.count(7), 0);
        due("STEPS", x.count(1), 2 * 20 + 200);
        House y = new House();
        silent = laying(y, 2);
        again = laying(y, 1);
        y.bind(y.hearer(FIRST, y.hearer(LATER, 1, 0), 99), 1);
        for (int i = 0; i < 19; i++) {
            y.act(silent, 0);
        }
        y.act(again, 0);
        due("118 entries behind the first, all well", y.drain(), 2 * 99 + 1);
        due("119 were taken out and RUNG", y.count(2), 19 + 100);
        due("none is left, too", y.count(7), 0);
    }

    private void firstThatFits() {
        sentence("Terms", "Calls answer, of several the first that fits:");
        House x = new House();
        meetFailures(x, 2000);
        due("2000 are met", x.count(9), 2000);
        due("ring: BAD ahead of FULL", x.ring(6, 0), BAD);
        due("ring: FULL", x.ring(5, 0), FULL);
        due("act: BAD ahead of FULL", x.act(x.count(0), 0), BAD);
        due("act: FULL", x.act(0, 0), FULL);
        x.take(0);
        due("act: FULL ahead of EMPTY", x.act(0, 0), FULL);
        int first = twelveInLine(x, 0);
        due("bind: BAD ahead of FULL", x.bind(first + 12, 0), BAD);
        due("bind: a bell that is none", x.bind(first, 6), BAD);
        due("bind: FULL", x.bind(0, 0), FULL);
        while (x.count(0) < 40) {
            x.hearer(ADD, 0, 0);
        }
        due("hearer: BAD ahead of FULL", x.hearer(ADD, 8, 0), BAD);
        due("hearer: BAD sort ahead of FULL", x.hearer(15, 0, 0), BAD);
        due("hearer: BAD hearer ahead of FULL", x.hearer(BOTH, 0, 40), BAD);
        due("hearer: FULL", x.hearer(ADD, 7, 0), FULL);
    }

    private void badChangesNothing() {
        sentence("Terms", "BAD (a number is none such),");
        refused("of two numbers one is none such", BAD, Edges::furnish,
                y -> y.bind(0, 6), y -> y.bind(13, 0), y -> y.leave(2, 6), y -> y.leave(13, 0), y -> y.lend(2, 13),
                y -> y.lend(13, 2), y -> y.way(6, 1), y -> y.way(0, 2), y -> y.tally(8, 1), y -> y.take(13),
                y -> y.ring(6, 1), y -> y.act(13, 1), y -> y.line(6, 0), y -> y.count(10), y -> y.done(13),
                y -> y.hearer(IF, 0, 8), y -> y.hearer(IF, 13, 0), y -> y.hearer(BIND, 13, 0));
        refused("both are none such", BAD, Edges::furnish,
                y -> y.bind(-1, -1), y -> y.leave(40, 6), y -> y.lend(-1, 40), y -> y.way(-1, -1), y -> y.line(-1, -1),
                y -> y.hearer(BOTH, -1, 40), y -> y.hearer(TRY, 40, -1), y -> y.hearer(-1, -1, -1));
    }

    private void fullAt2000() {
        sentence("Terms", "FULL (those that RING or do ACTS: 2000 FAILURES were MET ever, or more);");
        House x = new House();
        meetFailures(x, 1999);
        x.bind(0, 0);
        due("1999 are met", x.count(9), 1999);
        due("1999: ring", x.ring(0, 0), 1);
        due("1999: drain", x.drain(), 0);
        due("1999: act", x.act(0, 0), 1);
        due("still 1999", x.count(9), 1999);
        x.take(1);
        due("the 2000th", x.act(1, 0), EMPTY);
        due("2000 are met", x.count(9), 2000);
        due("2000: ring", x.ring(0, 0), FULL);
        due("2000: drain", x.drain(), FULL);
        due("2000: act", x.act(0, 0), FULL);
        due("2000: an empty line", x.ring(5, 0), FULL);
        due("nothing more is met", x.count(9), 2000);
        House byTry = new House();
        meetFailures(byTry, 2000);
        due("2000 by TRIES: ring", byTry.ring(0, 0), FULL);
        due("2000 by TRIES: drain", byTry.drain(), FULL);
        due("2000 by TRIES: act", byTry.act(0, 0), FULL);
    }

    private void fullBeyond2000() {
        sentence("Terms", "FULL (those that RING or do ACTS: 2000 FAILURES were MET ever, or more);");
        House x = new House();
        meetFailures(x, 1999);
        int first = x.count(0);
        for (int i = 0; i < 12; i++) {
            x.bind(noAct(x), 1);
        }
        x.way(1, SOFT);
        due("a call that begins at 1999 goes on", x.ring(1, 0), 0);
        due("to 2011", x.count(9), 2011);
        due("MISSES", x.count(3), 12);
        due("2011: ring", x.ring(0, 0), FULL);
        due("2011: drain", x.drain(), FULL);
        due("2011: act", x.act(0, 0), FULL);
        due("hearers were made", x.count(0), first + 12);
        House y = new House();
        meetFailures(y, 1999);
        int laying = laying(y, 5);
        y.bind(0, 5);
        int both = y.hearer(BOTH, y.hearer(TRY, laying, 7), y.hearer(TRY, laying, 7));
        due("at 2001 THE QUEUE of that call is rung", y.act(both, 3), 1 + 2 * 3 + 2);
        due("2001", y.count(9), 2001);
        due("2001: act", y.act(0, 0), FULL);
    }

    private void fullIsForThoseThatRing() {
        sentence("Terms", "FULL (those that RING or do ACTS: 2000 FAILURES were MET ever, or more);");
        House x = new House();
        meetFailures(x, 2000);
        int hearers = x.count(0);
        due("tally", x.tally(0, 5), 1);
        due("get", x.get(0), 5);
        due("way", x.way(0, SOFT), HARD);
        due("hearer", x.hearer(RING, 0, 0), hearers);
        due("bind", x.bind(hearers, 0), 0);
        due("line", x.line(0, 0), hearers);
        due("leave", x.leave(hearers, 0), 0);
        due("lend", x.lend(hearers, 0), 1);
        due("take", x.take(hearers), 1);
        due("queued", x.queued(0), NONE);
        due("count", x.count(0), hearers + 1);
        due("done", x.done(hearers), 0);
    }

    private void fullChangesNothing() {
        sentence("Terms", "these change nothing.");
        refused("2000 are met, and two entries are laid", FULL, y -> {
            furnish(y);
            meetFailures(y, 1998);
            int laying = laying(y, 2);
            y.act(laying, 4);
            y.act(laying, 5);
        }, y -> y.ring(0, 1), y -> y.ring(2, 1), y -> y.drain(), y -> y.act(0, 7), y -> y.act(1, 7), y -> y.act(9, 7));
        refused("2000 are met, and a number is none such", BAD, y -> {
            furnish(y);
            meetFailures(y, 2000);
        }, y -> y.ring(6, 1), y -> y.act(40, 7));
        refused("40 hearers", FULL, y -> {
            furnish(y);
            while (y.count(0) < 40) {
                y.hearer(ADD, 2, 1);
            }
        }, y -> y.hearer(ADD, 0, 1), y -> y.hearer(FIRST, 6, 1), y -> y.hearer(BACK, 3, 1));
        refused("12 in line", FULL, y -> {
            furnish(y);
            twelveInLine(y, 3);
        }, y -> y.bind(0, 3), y -> y.bind(1, 3), y -> y.bind(2, 3));
    }

    private void toldByMinusTenLess() {
        sentence("Terms", "All FAILURES of a call are told by -10 less that which came up to it.");
        House x = new House();
        int share = x.hearer(SHARE, 1, 0);
        int tried = x.hearer(TRY, share, 7);
        int none = noAct(x);
        bindAll(x, 0, tried, none, share);
        due("not the one that was met first, nor one that did not come", x.ring(0, 0), EMPTY);
        x.way(1, SOFT);
        bindAll(x, 1, share, none);
        due("all were met", x.ring(1, 0), 1);
        int laying = laying(x, 0);
        due("in an act", x.act(laying, 0), EMPTY);
        x.leave(none, 0);
        due("in THE QUEUE", x.drain(), ZERO);
        due("the latest", x.count(8), 1);
        due("calls that FAILED", x.count(4), 3);
    }
}
