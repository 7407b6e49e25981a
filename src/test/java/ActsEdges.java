/** The document's sentences on the acts by sort, each with its edge. */
final class ActsEdges extends Edges {
    ActsEdges(Sentences sentences) {
        super(sentences);
    }

    @Override
    void all() {
        actsBySort();
        add();
        most();
        back();
        shareCutTowardNought();
        shareByNought();
        point();
        pointAtNone();
        ringAct();
        later();
        laterRoom();
        stopEndsTheRinging();
        stopWhateverIsBetween();
        firstTimes();
        thisFirst();
        thenNothing();
        eachTime();
        thisEach();
        eachBelowOne();
        elseNothing();
        ifAboveNought();
        ifAsItIsDone();
        both();
        bothWithEachSort();
        tryIfItFails();
        tryButDeepSpent();
        tryOneMore();
        cut();
        bindBehind();
        bindIfNotInIt();
        bindRoom();
        noneAsMade();
        noneAsMadeNotDone();
    }

    private void actsBySort() {
        sentence("Terms", "ACTS by SORT.");
        House x = new House();
        for (int sort = 0; sort <= 14; sort++) {
            due("sort " + sort, x.hearer(sort, 0, 0), sort + 2);
        }
        refused("no sort", BAD, Edges::furnish, y -> y.hearer(-1, 0, 0), y -> y.hearer(15, 0, 0),
                y -> y.hearer(MIN, 0, 0), y -> y.hearer(MAX, 0, 0));
    }

    private void add() {
        sentence("Terms", "0 ADD: TALLY a becomes itself, v and b together.");
        House x = new House();
        x.tally(1, 1000);
        int add = x.hearer(ADD, 1, 20);
        due("ADD", x.act(add, 3), 1);
        due("itself, v and b", x.get(1), 1023);
        x.act(add, -3000);
        due("with v below 0", x.get(1), -1957);
        x.act(x.hearer(ADD, 1, -43), 0);
        due("with b below 0", x.get(1), -2000);
        x.act(x.hearer(ADD, 1, 0), 0);
        due("with nothing", x.get(1), -2000);
        due("no other tally", x.get(0) + x.get(2), 0);
    }

    private void most() {
        sentence("Terms", "1 MOST: TALLY a becomes v, if v is greater.");
        House x = new House();
        int most = x.hearer(MOST, 2, 100);
        long[][] rows = {{5, 4, 5}, {5, 5, 5}, {5, 6, 6}, {-5, -6, -5}, {-5, -4, -4}, {0, -1, 0}, {0, 1, 1},
            {1, FAR, FAR}, {1, -FAR, 1}, {LEAST, LEAST, LEAST}, {LEAST, LEAST + 1, LEAST + 1},
            {GREATEST, LEAST, GREATEST}, {LEAST, GREATEST, GREATEST}};
        for (long[] row : rows) {
            x.tally(2, row[0]);
            due("MOST of " + row[0] + " with " + row[1], x.act(most, row[1]), 1);
            due(row[0] + " with " + row[1], x.get(2), row[2]);
        }
    }

    private void back() {
        sentence("Terms", "2 BACK: TALLY a becomes what it was AS MADE, and b.");
        House x = new House();
        x.tally(3, -40);
        int back = x.hearer(BACK, 3, 7);
        int backLess = x.hearer(BACK, 3, -7);
        int backSame = x.hearer(BACK, 3, 0);
        x.tally(3, 999);
        due("BACK", x.act(back, 5), 1);
        due("and b", x.get(3), -33);
        x.act(back, 5);
        due("again the same", x.get(3), -33);
        x.act(backLess, 5);
        due("and b below 0", x.get(3), -47);
        x.act(backSame, 5);
        due("and b 0", x.get(3), -40);
    }

    private void shareCutTowardNought() {
        sentence("Terms", "3 SHARE: TALLY a becomes itself by v, cut toward 0");
        House x = new House();
        int share = x.hearer(SHARE, 4, 3);
        long[][] rows = {{7, 2, 3}, {-7, 2, -3}, {7, -2, -3}, {-7, -2, 3}, {6, 2, 3}, {1, 2, 0}, {-1, 2, 0},
            {0, 5, 0}, {9, 1, 9}, {9, -1, -9}, {2 * FAR, FAR, 2}, {LEAST, 1, LEAST}, {LEAST, -1, LEAST},
            {LEAST, GREATEST, -1}, {GREATEST, LEAST, 0}};
        for (long[] row : rows) {
            x.tally(4, row[0]);
            due("SHARE of " + row[0] + " by " + row[1], x.act(share, row[1]), 1);
            due(row[0] + " by " + row[1], x.get(4), row[2]);
        }
    }

    private void shareByNought() {
        sentence("Terms", "(ZERO: v is 0).");
        House x = new House();
        int share = x.hearer(SHARE, 4, 1);
        x.tally(4, 12);
        due("by 1", x.act(share, 1), 1);
        due("by -1", x.act(share, -1), 1);
        due("by what is 0 as an int", x.act(share, FAR), 1);
        x.tally(4, 12);
        due("by 0", x.act(share, 0), ZERO);
        due("the tally stays", x.get(4), 12);
        x.tally(4, 0);
        due("0 by 0", x.act(share, 0), ZERO);
    }

    private void point() {
        sentence("Terms", "4 POINT: TALLY v becomes b more");
        House x = new House();
        int point = x.hearer(POINT, 99, 5);
        int less = x.hearer(POINT, -99, -7);
        for (int k = 0; k <= 7; k++) {
            due("POINT at " + k, x.act(point, k), 1);
            due("again at " + k, x.act(point, k), 1);
            due("5 more each time at " + k, x.get(k), 10);
        }
        due("less at 7", x.act(less, 7), 1);
        due("7 less", x.get(7), 3);
        due("not at 6", x.get(6), 10);
    }

    private void pointAtNone() {
        sentence("Terms", "(PLACE: there is none such).");
        House x = new House();
        int point = x.hearer(POINT, 0, 5);
        for (long v : new long[] {-1, 8, FAR, FAR + 7, -FAR, -FAR + 1, LEAST, GREATEST}) {
            due("POINT at " + v, x.act(point, v), PLACE);
        }
        for (int k = 0; k <= 7; k++) {
            due("tally " + k + " stays", x.get(k), 0);
        }
        due("at the first", x.act(point, 0), 1);
        due("at the last", x.act(point, 7), 1);
    }

    private void ringAct() {
        sentence("Terms", "5 RING: BELL a is RUNG with v + b.");
        House x = new House();
        int other = x.hearer(ADD, 1, 0);
        x.bind(0, 5);
        x.bind(other, 4);
        due("RING", x.act(x.hearer(RING, 5, 30), 4), 2);
        due("with v + b", x.get(0), 34);
        x.act(x.hearer(RING, 5, -30), 4);
        due("with b below 0", x.get(0), 34 - 26);
        due("no other bell", x.get(1), 0);
        due("RINGINGS", x.count(2), 2);
        due("at once, ahead of what is behind it", x.act(x.hearer(BOTH, x.hearer(RING, 5, 0),
                x.hearer(MOST, 0, 0)), 9), 4);
        due("8 and 9, then the most of that and 9", x.get(0), 17);
    }

    private void later() {
        sentence("Terms", "6 LATER: v + b is laid for BELL a behind THE QUEUE");
        House x = new House();
        int share = x.hearer(SHARE, 0, 0);
        x.bind(0, 3);
        x.bind(share, 4);
        int add = x.hearer(LATER, 3, 20);
        int cut = x.hearer(LATER, 4, -1);
        int none = noAct(x);
        due("laid, and failed", x.act(x.hearer(BOTH, add, x.hearer(BOTH, cut, none)), 3), EMPTY);
        due("not rung yet", x.get(0), 0);
        due("the first laid", x.queued(0), 3);
        due("the one behind", x.queued(1), 4);
        due("no more", x.queued(2), NONE);
        due("rung later", x.drain(), 2);
        due("in order, with v + b each", x.get(0), (3 + 20) / (3 - 1));
        due("laid, done behind the act, then rung", x.act(x.hearer(BOTH, cut, 0), 3), 4);
        due("11 and 3 by 2", x.get(0), 7);
    }

    private void laterRoom() {
        sentence("Terms", "(ROOM: 20 are there).");
        House x = new House();
        int first = laying(x, 1);
        int others = laying(x, 2);
        int last = laying(x, 3);
        x.act(first, 0);
        for (int i = 1; i < 19; i++) {
            x.act(others, 0);
        }
        due("19 are there", x.count(7), 19);
        due("a 20th has room", x.act(last, 0), EMPTY);
        due("20 are there", x.count(7), 20);
        due("a 21st has none", x.act(others, 0), ROOM);
        due("still 20", x.count(7), 20);
        due("the first stays", x.queued(0), 1);
        due("the second stays", x.queued(1), 2);
        due("the last stays", x.queued(19), 3);
        due("nobody behind it", x.queued(20), NONE);
        due("all are rung", x.drain(), 0);
        due("RINGINGS", x.count(2), 20);
        due("then there is room", x.act(others, 0), EMPTY);
        due("and one entry", x.count(7), 1);
    }

    private void stopEndsTheRinging() {
        sentence("Terms", "7 STOP: the RINGING in which it is done ends, well");
        House x = new House();
        int ring = x.hearer(RING, 1, 0);
        int behind = x.hearer(ADD, 2, 0);
        bindAll(x, 1, 0, 1, behind);
        bindAll(x, 0, ring, behind);
        due("the inner one ends, the outer goes on", x.ring(0, 5), 4);
        due("ahead of the STOP", x.get(0), 5);
        due("behind the STOP, and in the outer one", x.get(2), 5);
        due("well: no failed call", x.count(4), 0);
        due("well: no failure met", x.count(9), 0);
        due("STOPS", x.count(6), 1);
        x.way(1, SOFT);
        due("a SOFT one ends, too", x.ring(1, 5), 2);
        due("without a MISS", x.count(3), 0);
        due("not for the next call", x.ring(1, 5), 2);
    }

    private void stopWhateverIsBetween() {
        sentence("Terms", "(whatever ACTS are between).");
        House x = new House();
        x.tally(7, 1);
        int behind = x.hearer(ADD, 2, 0);
        int between = x.hearer(BOTH, 1, behind);
        between = x.hearer(FIRST, between, 9);
        between = x.hearer(EACH, between, 1);
        between = x.hearer(IF, between, 7);
        between = x.hearer(TRY, between, 6);
        between = x.hearer(BOTH, 0, between);
        between = x.hearer(BOTH, between, behind);
        bindAll(x, 0, between, behind);
        due("up to the RINGING", x.ring(0, 5), 9);
        due("what was done ahead", x.get(0), 5);
        due("nothing behind is done", x.get(2), 0);
        due("no TRY meets it", x.get(6), 0);
        due("in no RINGING", x.act(between, 5), 9);
        due("nothing behind is done there", x.get(2), 0);
    }

    private void firstTimes() {
        sentence("Terms", "8 FIRST: the ACT of HEARER a AS MADE, but only the first b times that this FIRST is done;");
        for (int b : new int[] {1, 2, 3}) {
            House x = new House();
            int first = x.hearer(FIRST, 0, b);
            for (int time = 1; time <= b + 2; time++) {
                due("FIRST " + b + ", time " + time, x.act(first, 1), time <= b ? 2 : 1);
            }
            due("FIRST " + b + ", so often", x.get(0), b);
        }
        for (int b : new int[] {0, -1, MIN}) {
            House x = new House();
            int first = x.hearer(FIRST, 0, b);
            due("FIRST " + b, x.act(first, 1) + x.act(first, 1), 2);
            due("FIRST " + b + ", never", x.get(0), 0);
        }
        House x = new House();
        int always = x.hearer(FIRST, 0, MAX);
        for (int time = 1; time <= 50; time++) {
            due("FIRST of the greatest, time " + time, x.act(always, 1), 2);
        }
    }

    private void thisFirst() {
        sentence("Terms", "8 FIRST: the ACT of HEARER a AS MADE, but only the first b times that this FIRST is done;");
        House x = new House();
        int one = x.hearer(FIRST, 0, 1);
        int other = x.hearer(FIRST, 0, 1);
        int borrower = x.hearer(STOP, 0, 0);
        x.lend(borrower, one);
        due("this FIRST", x.act(one, 1), 2);
        due("another FIRST counts for itself", x.act(other, 1), 2);
        due("whoever has it, it is this one", x.act(borrower, 1), 1);
        int share = x.hearer(SHARE, 1, 0);
        int failing = x.hearer(FIRST, share, 1);
        due("a time that failed", x.act(failing, 0), ZERO);
        due("was a time", x.act(failing, 0), 1);
        House y = new House();
        int inItself = y.hearer(FIRST, y.hearer(RING, 0, 0), 2);
        y.bind(inItself, 0);
        due("times in one another: two ring, the third does not", y.ring(0, 0), 5);
        due("then none", y.ring(0, 0), 1);
    }

    private void thenNothing() {
        sentence("Terms", "then nothing.");
        House x = new House();
        int share = x.hearer(SHARE, 1, 0);
        int first = x.hearer(FIRST, share, 1);
        x.tally(1, 8);
        due("the first time", x.act(first, 2), 2);
        due("then no step more", x.act(first, 2), 1);
        due("then no change", x.get(1), 4);
        due("then no failure", x.act(first, 0), 1);
        due("what is behind it is done", x.act(x.hearer(BOTH, first, 0), 5), 3);
        due("by BOTH", x.get(0), 5);
        due("it began each time", x.done(first), 4);
        due("its act began once", x.done(share), 1);
    }

    private void eachTime() {
        sentence("Terms", "9 EACH: that ACT, each b-th time that this EACH is done");
        for (int b : new int[] {1, 2, 3, 7}) {
            House x = new House();
            int each = x.hearer(EACH, 0, b);
            for (int time = 1; time <= 3 * b; time++) {
                due("EACH " + b + ", time " + time, x.act(each, 1), time % b == 0 ? 2 : 1);
            }
            due("EACH " + b + ", so often", x.get(0), 3);
        }
        House x = new House();
        int rare = x.hearer(EACH, 0, MAX);
        for (int time = 1; time <= 50; time++) {
            due("EACH of the greatest, time " + time, x.act(rare, 1), 1);
        }
    }

    private void thisEach() {
        sentence("Terms", "9 EACH: that ACT, each b-th time that this EACH is done");
        House x = new House();
        int one = x.hearer(EACH, 0, 2);
        int other = x.hearer(EACH, 0, 2);
        int borrower = x.hearer(STOP, 0, 0);
        x.lend(borrower, one);
        due("this EACH", x.act(one, 1), 1);
        due("another EACH counts for itself", x.act(other, 1), 1);
        due("whoever has it, it is this one", x.act(borrower, 1), 2);
        House y = new House();
        int inItself = y.hearer(EACH, y.hearer(RING, 0, 0), 2);
        y.bind(inItself, 0);
        due("the first time", y.ring(0, 0), 1);
        due("times in one another: the second rings, the third does not", y.ring(0, 0), 3);
        due("the fourth rings, the fifth does not", y.ring(0, 0), 3);
    }

    private void eachBelowOne() {
        sentence("Terms", "(b below 1 counts as 1);");
        for (int b : new int[] {1, 0, -1, -2, MIN}) {
            House x = new House();
            int each = x.hearer(EACH, 0, b);
            for (int time = 1; time <= 4; time++) {
                due("EACH " + b + ", time " + time, x.act(each, 1), 2);
            }
        }
        House x = new House();
        due("2 does not count as 1", x.act(x.hearer(EACH, 0, 2), 1), 1);
    }

    private void elseNothing() {
        sentence("Terms", "else nothing.");
        House x = new House();
        int share = x.hearer(SHARE, 1, 0);
        int each = x.hearer(EACH, share, 2);
        int eachThenAdd = x.hearer(BOTH, each, 0);
        due("no failure", x.act(eachThenAdd, 0), 3);
        due("the second time it fails", x.act(eachThenAdd, 0), ZERO);
        due("no change", x.act(eachThenAdd, 5), 3);
        due("what is behind it is done", x.get(0), 5);
        due("it began each time", x.done(each), 3);
        due("its act began once", x.done(share), 1);
    }

    private void ifAboveNought() {
        sentence("Terms", "10 IF: that ACT, if TALLY b is above 0");
        House x = new House();
        int when = x.hearer(IF, 0, 5);
        for (long above : new long[] {1, 2, FAR, GREATEST}) {
            x.tally(5, above);
            due("IF " + above, x.act(when, 1), 2);
        }
        for (long notAbove : new long[] {0, -1, -FAR, LEAST, -FAR + 1}) {
            x.tally(5, notAbove);
            due("IF " + notAbove, x.act(when, 1), 1);
        }
        due("so often", x.get(0), 4);
        for (int k = 0; k <= 7; k++) {
            x.tally(k, 0);
        }
        x.tally(7, 1);
        due("of tally 7", x.act(x.hearer(IF, 0, 7), 0), 2);
        due("of tally 0", x.act(x.hearer(IF, 0, 0), 0), 1);
    }

    private void ifAsItIsDone() {
        sentence("Terms", "as it is done.");
        House x = new House();
        int whenNot = x.hearer(IF, 0, 5);
        x.tally(5, 1);
        int when = x.hearer(IF, 0, 5);
        due("made at 0, done at 1", x.act(whenNot, 0), 2);
        x.tally(5, 0);
        due("made at 1, done at 0", x.act(when, 0), 1);
        int more = x.hearer(ADD, 5, 0);
        due("becomes 1 just before", x.act(x.hearer(BOTH, more, when), 1), 4);
        due("becomes 0 just before", x.act(x.hearer(BOTH, more, when), -1), 3);
    }

    private void both() {
        sentence("Terms", "11 BOTH: the ACTS of HEARERS a, then b AS MADE.");
        House x = new House();
        int share = x.hearer(SHARE, 0, 0);
        int addShare = x.hearer(BOTH, 0, share);
        int shareAdd = x.hearer(BOTH, share, 0);
        x.tally(0, 10);
        due("a, then b", x.act(addShare, 5), 3);
        due("10 and 5, by 5", x.get(0), 3);
        x.tally(0, 10);
        due("the other way", x.act(shareAdd, 5), 3);
        due("10 by 5, and 5", x.get(0), 7);
        due("a of both", x.act(x.hearer(BOTH, 0, 0), 1), 3);
        due("twice", x.get(0), 9);
        due("a fails", x.act(shareAdd, 0), ZERO);
        due("b was not done", x.done(0), 4);
        x.lend(0, share);
        x.take(share);
        x.tally(0, 10);
        due("as made", x.act(addShare, 5), 3);
        due("10 and 5, by 5 again", x.get(0), 3);
    }

    private void bothWithEachSort() {
        sentence("Terms", "11 BOTH: the ACTS of HEARERS a, then b AS MADE.");
        for (int sort = ADD; sort <= BIND; sort++) {
            House x = new House();
            int behind = x.hearer(ADD, 2, 1);
            int made = x.hearer(sort, 0, 0);
            x.act(x.hearer(BOTH, made, behind), 3);
            due("behind sort " + sort + ", if it is no STOP", x.get(2), sort == STOP ? 0 : 4);
            bindAll(x, 5, made, behind);
            x.ring(5, 3);
            due("so it is in a line behind sort " + sort, x.get(2), sort == STOP ? 0 : 8);
        }
        for (int sort = FIRST; sort <= TRY; sort++) {
            House x = new House();
            x.tally(7, 1);
            int behind = x.hearer(ADD, 2, 1);
            int made = x.hearer(sort, 0, sort == BOTH ? 0 : sort == EACH ? 1 : 7);
            x.act(x.hearer(BOTH, made, behind), 3);
            due("behind sort " + sort + ", with its act", x.get(2), 4);
            due("its act", x.get(0), sort == BOTH ? 6 : 3);
        }
    }

    private void tryIfItFails() {
        sentence("Terms", "12 TRY: the ACT of HEARER a AS MADE; if it FAILS");
        House x = new House();
        int share = x.hearer(SHARE, 1, 0);
        int tried = x.hearer(TRY, share, 7);
        x.lend(share, 0);
        x.tally(1, 6);
        due("it does not fail", x.act(tried, 2), 2);
        due("as made", x.get(1), 3);
        due("no more", x.get(7), 0);
        due("it fails", x.act(tried, 0), 2);
        due("one more", x.get(7), 1);
        due("nothing fails up to the call", x.count(4), 0);
        due("what is behind it is done", x.act(x.hearer(BOTH, tried, 1), 0), 4);
        due("STOPS", x.count(6), 1);
    }

    private void tryButDeepSpent() {
        sentence("Terms", "(but DEEP, SPENT),");
        int[] due = {1, 1, 1, 1, 1, DEEP, SPENT};
        for (int which = 0; which < due.length; which++) {
            House x = new House();
            int tried = x.hearer(TRY, failing(x, which), 7);
            int answer = x.act(tried, 0);
            due("failing act " + which, Math.min(answer, 1), due[which]);
            due("failing act " + which + " at the tally", x.get(7), due[which] == 1 ? 1 : 0);
            due("failing act " + which + " by tries", x.count(5), due[which] == 1 ? 1 : 0);
        }
    }

    /** ZERO, PLACE, EMPTY, ROOM by LATER, ROOM by BIND, DEEP, SPENT; all if done with 0. */
    private static int failing(House x, int which) {
        switch (which) {
            case 0:
                return x.hearer(SHARE, 1, 0);
            case 1:
                x.bind(x.hearer(POINT, 0, 1), 2);
                return x.hearer(RING, 2, -1);
            case 2:
                return x.hearer(FIRST, noAct(x), 1);
            case 3:
                return doubled(x, x.hearer(LATER, 3, 0), 5);
            case 4:
                twelveInLine(x, 4);
                return x.hearer(BIND, 0, 4);
            case 5:
                int ring = x.hearer(RING, 5, 0);
                x.bind(ring, 5);
                return ring;
            default:
                return making(x, 201);
        }
    }

    private void tryOneMore() {
        sentence("Terms", "TALLY b becomes one more.");
        House x = new House();
        int share = x.hearer(SHARE, 1, 0);
        int inner = x.hearer(TRY, share, 6);
        int outer = x.hearer(TRY, inner, 0);
        x.tally(6, -2);
        for (int time = 1; time <= 3; time++) {
            due("time " + time, x.act(outer, 0), 3);
            due("one more, time " + time, x.get(6), time - 2);
        }
        due("the outer one met none", x.get(0), 0);
        int both = x.hearer(BOTH, inner, share);
        due("one met inside, one outside", x.act(x.hearer(TRY, both, 7), 0), 5);
        due("inside", x.get(6), 2);
        due("outside", x.get(7), 1);
    }

    private void cut() {
        sentence("Terms", "13 CUT: HEARER a leaves all LINES.");
        House x = new House();
        int more = x.hearer(ADD, 0, 0);
        int cut = x.hearer(CUT, more, 0);
        bindAll(x, 0, more, 0, 1);
        bindAll(x, 1, 0, more, 1);
        bindAll(x, 2, 0, 1, more);
        bindAll(x, 3, more);
        bindAll(x, 4, 0, 1);
        bindAll(x, 5, more, 0, 1);
        due("CUT", x.act(cut, 0), 1);
        for (int bell = 0; bell <= 5; bell++) {
            due("it is not in the line of " + bell, x.leave(more, bell), NONE);
            due("the first of " + bell, x.line(bell, 0), bell == 3 ? NONE : 0);
            due("the second of " + bell, x.line(bell, 1), bell == 3 ? NONE : 1);
            due("nobody else of " + bell, x.line(bell, 2), NONE);
        }
        due("it is in no line: well", x.act(cut, 0), 1);
        due("it is still a hearer", x.act(more, 0), 1);
        due("and may come again", x.bind(more, 0), 2);
    }

    private void bindBehind() {
        sentence("Terms", "14 BIND: HEARER a comes behind the LINE of BELL b,");
        House x = new House();
        due("into an empty line", x.act(x.hearer(BIND, 1, 5), 0), 1);
        due("the first place", x.line(5, 0), 1);
        due("into a line of one", x.act(x.hearer(BIND, 0, 5), 0), 1);
        due("behind", x.line(5, 1), 0);
        due("no more", x.line(5, 2), NONE);
        due("no other line", x.line(0, 0), NONE);
        due("it is told from then on", x.ring(5, 0), 1);
    }

    private void bindIfNotInIt() {
        sentence("Terms", "if it is not in it");
        House x = new House();
        int first = twelveInLine(x, 2);
        int inIt = x.hearer(BIND, first, 2);
        due("in it, and it is full: well", x.act(inIt, 0), 1);
        due("its place is kept", x.line(2, 0), first);
        due("the last stays the last", x.line(2, 11), first + 11);
        x.leave(first + 5, 2);
        due("in it, and there is room: well", x.act(inIt, 0), 1);
        due("it did not come again", x.line(2, 11), NONE);
        x.leave(first, 2);
        due("not in it", x.act(inIt, 0), 1);
        due("it came behind", x.line(2, 10), first);
        due("in another line alone", x.act(x.hearer(BIND, first, 3), 0), 1);
        due("there it is not in it", x.line(3, 0), first);
    }

    private void bindRoom() {
        sentence("Terms", "(ROOM: 12 are there).");
        House x = new House();
        int first = twelveInLine(x, 2);
        int bind = x.hearer(BIND, 0, 2);
        due("12 are there", x.act(bind, 0), ROOM);
        due("it did not come", x.leave(0, 2), NONE);
        due("the last is there", x.line(2, 11), first + 11);
        x.leave(first, 2);
        due("11 are there", x.act(bind, 0), 1);
        due("it came as the twelfth", x.line(2, 11), 0);
        due("12 are there again", x.act(x.hearer(BIND, 1, 2), 0), ROOM);
    }

    private void noneAsMade() {
        sentence("Terms", "8 to 12 do an ACT that was none AS MADE: EMPTY.");
        House x = new House();
        x.tally(7, 1);
        int none = noAct(x);
        int[] hearers = {x.hearer(FIRST, none, 1), x.hearer(EACH, none, 1), x.hearer(IF, none, 7),
            x.hearer(BOTH, none, 0), x.hearer(BOTH, 0, none)};
        int tried = x.hearer(TRY, none, 6);
        x.lend(none, 1);
        for (int i = 0; i < hearers.length; i++) {
            due("none as made, " + i, x.act(hearers[i], 3), EMPTY);
        }
        due("BOTH: none ahead of one, and one ahead of none", x.get(0), 3);
        due("TRY meets it", x.act(tried, 3), 1);
        due("one more", x.get(6), 1);
        due("an ACT that is none makes no STEP", x.count(1), 7);
        due("one as made", x.act(x.hearer(FIRST, none, 1), 3), 2);
    }

    private void noneAsMadeNotDone() {
        sentence("Terms", "8 to 12 do an ACT that was none AS MADE: EMPTY.");
        House x = new House();
        int none = noAct(x);
        due("FIRST, never done", x.act(x.hearer(FIRST, none, 0), 3), 1);
        int second = x.hearer(EACH, none, 2);
        due("EACH, not this time", x.act(second, 3), 1);
        due("EACH, this time", x.act(second, 3), EMPTY);
        int when = x.hearer(IF, none, 7);
        due("IF at 0", x.act(when, 3), 1);
        x.tally(7, 1);
        due("IF above 0", x.act(when, 3), EMPTY);
    }
}
