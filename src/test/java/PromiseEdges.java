/** The sentences of promises 1 to 16. */
final class PromiseEdges extends Edges {
    PromiseEdges(Sentences sentences) {
        super(sentences);
    }

    @Override
    void all() {
        newTalliesAndLines();
        newHearers();
        newInNoLine();
        tally();
        tallyBad();
        way();
        wayBad();
        hearer();
        hearerBadSort();
        hearerBadTally();
        hearerBadBell();
        hearerBadHearer();
        hearerFull();
        bind();
        bindBad();
        bindFull();
        bindNone();
        leave();
        leaveNone();
        leaveBad();
        take();
        takeNone();
        takeBad();
        lend();
        lendNone();
        lendBad();
        ring();
        ringFails();
        ringRefused();
        drain();
        drainLikewise();
        drainFull();
        act();
        actStops();
        actThenQueue();
        actEmpty();
        actRefused();
        get();
        getNone();
        line();
        lineNone();
        lineBad();
        queued();
        queuedNone();
        countHearersStepsRingings();
        countMissesFailedTries();
        countStops();
        countQueue();
        countLatest();
        countMet();
        countBad();
        done();
        doneBad();
    }

    private void newTalliesAndLines() {
        sentence("Promise 1", "TALLIES 0, LINES empty;");
        House x = new House();
        for (int k = 0; k <= 7; k++) {
            due("tally " + k, x.get(k), 0);
        }
        for (int bell = 0; bell <= 5; bell++) {
            due("line of " + bell, x.line(bell, 0), NONE);
            due("last place of " + bell, x.line(bell, 11), NONE);
        }
        House other = new House();
        other.tally(0, 5);
        other.bind(0, 0);
        due("another object's tally", x.get(0), 0);
        due("another object's line", x.line(0, 0), NONE);
    }

    private void newHearers() {
        sentence("Promise 1", "HEARER 0 is ADD to TALLY 0, of 0, HEARER 1 is STOP;");
        House x = new House();
        due("two hearers", x.count(0), 2);
        due("done by 0", x.done(0), 0);
        due("done by 1", x.done(1), 0);
        due("no hearer 2", x.done(2), BAD);
        due("0 with 0", x.act(0, 0), 1);
        due("of 0", x.get(0), 0);
        due("0 with -7", x.act(0, -7), 1);
        due("it adds", x.get(0), -7);
        due("0 with -7 again", x.act(0, -7), 1);
        due("it adds to itself", x.get(0), -14);
        due("1", x.act(1, 5), 1);
        due("it stops", x.count(6), 1);
        due("it adds nothing", x.get(0), -14);
        bindAll(x, 0, 1, 0);
        due("it ends a RINGING", x.ring(0, 5), 1);
    }

    private void newInNoLine() {
        sentence("Promise 1", "both are in no LINE.");
        House x = new House();
        for (int bell = 0; bell <= 5; bell++) {
            due("0 is not in line " + bell, x.leave(0, bell), NONE);
            due("1 is not in line " + bell, x.leave(1, bell), NONE);
        }
        due("nothing else is there", x.count(1) + x.count(2) + x.count(7) + x.count(8) + x.count(9), 0);
    }

    private void tally() {
        sentence("Promise 2", "TALLY k becomes v: 1.");
        House x = new House();
        for (long v : new long[] {0, 1, -1, FAR, LEAST, GREATEST, 0}) {
            due("tally 0", x.tally(0, v), 1);
            due("becomes " + v, x.get(0), v);
            due("tally 7", x.tally(7, v), 1);
            due("7 becomes " + v, x.get(7), v);
        }
        for (int k = 1; k <= 6; k++) {
            due("tally " + k + " stays", x.get(k), 0);
        }
    }

    private void tallyBad() {
        sentence("Promise 2", "BAD.");
        refused("tally", BAD, Edges::furnish, y -> y.tally(-1, 1), y -> y.tally(8, 1), y -> y.tally(MIN, 1),
                y -> y.tally(MAX, 1), y -> y.tally(-8, 1), y -> y.tally(256, 1));
    }

    private void way() {
        sentence("Promise 3", "A BELL's WAY: what it was.");
        House x = new House();
        for (int bell : new int[] {0, 5}) {
            due("from HARD to HARD", x.way(bell, 0), 0);
            due("from HARD to SOFT", x.way(bell, 1), 0);
            due("from SOFT to SOFT", x.way(bell, 1), 1);
            due("from SOFT to HARD", x.way(bell, 0), 1);
            due("from HARD again", x.way(bell, 1), 0);
        }
        for (int bell = 1; bell <= 4; bell++) {
            due("the way of " + bell + " stays", x.way(bell, 0), 0);
        }
    }

    private void wayBad() {
        sentence("Promise 3", "BAD.");
        refused("way", BAD, Edges::furnish, y -> y.way(-1, 1), y -> y.way(6, 1), y -> y.way(MIN, 0),
                y -> y.way(MAX, 0), y -> y.way(0, -1), y -> y.way(0, 2), y -> y.way(1, MIN), y -> y.way(1, MAX),
                y -> y.way(6, 2));
    }

    private void hearer() {
        sentence("Promise 4", "A HEARER more: its number.");
        House x = new House();
        due("the first more", x.hearer(POINT, MIN, MAX), 2);
        due("hearers", x.count(0), 3);
        due("the second more", x.hearer(STOP, MAX, MIN), 3);
        due("it is in no line", x.leave(3, 0), NONE);
        due("it was never done", x.done(3), 0);
        due("it has an act", x.act(3, 0), 1);
        due("any b of FIRST", x.hearer(FIRST, 3, MIN), 4);
        due("any b of EACH", x.hearer(EACH, 3, MAX), 5);
        due("any b of CUT", x.hearer(CUT, 5, MIN), 6);
        due("any b of RING", x.hearer(RING, 5, MAX), 7);
        due("any b of LATER", x.hearer(LATER, 5, MIN), 8);
        due("any b of ADD", x.hearer(ADD, 7, MIN), 9);
        due("any b of MOST", x.hearer(MOST, 7, MIN), 10);
        due("any b of BACK", x.hearer(BACK, 7, MAX), 11);
        due("any b of SHARE", x.hearer(SHARE, 7, MAX), 12);
    }

    private void hearerBadSort() {
        sentence("Promise 4", "BAD: SORT;");
        House x = new House();
        due("sort 0", x.hearer(0, 0, 0), 2);
        due("sort 14", x.hearer(14, 0, 0), 3);
        refused("no sort", BAD, Edges::furnish, y -> y.hearer(-1, 0, 0), y -> y.hearer(15, 0, 0),
                y -> y.hearer(MIN, 0, 0), y -> y.hearer(MAX, 0, 0), y -> y.hearer(16, 0, 0));
    }

    private void hearerBadTally() {
        sentence("Promise 4", "a, b that are to be a TALLY (a of 0 to 3, b of 10, 12),");
        House x = new House();
        int next = 2;
        for (int k : new int[] {0, 7}) {
            for (int sort = ADD; sort <= SHARE; sort++) {
                due("a " + k + " of " + sort, x.hearer(sort, k, 0), next++);
            }
            due("b " + k + " of IF", x.hearer(IF, 0, k), next++);
            due("b " + k + " of TRY", x.hearer(TRY, 0, k), next++);
        }
        for (int k : new int[] {-1, 8, MIN, MAX}) {
            refused("tally " + k, BAD, Edges::furnish,
                    y -> y.hearer(ADD, k, 0), y -> y.hearer(MOST, k, 0), y -> y.hearer(BACK, k, 0),
                    y -> y.hearer(SHARE, k, 0), y -> y.hearer(IF, 0, k), y -> y.hearer(TRY, 0, k));
            due("POINT may have any: " + k, x.hearer(POINT, k, k), next++);
        }
    }

    private void hearerBadBell() {
        sentence("Promise 4", "BELL (a of 5, 6, b of 14),");
        House x = new House();
        int next = 2;
        for (int bell : new int[] {0, 5}) {
            due("a " + bell + " of RING", x.hearer(RING, bell, 0), next++);
            due("a " + bell + " of LATER", x.hearer(LATER, bell, 0), next++);
            due("b " + bell + " of BIND", x.hearer(BIND, 0, bell), next++);
        }
        for (int bell : new int[] {-1, 6, 7, MIN, MAX}) {
            refused("bell " + bell, BAD, Edges::furnish, y -> y.hearer(RING, bell, 0),
                    y -> y.hearer(LATER, bell, 0), y -> y.hearer(BIND, 0, bell));
            due("STOP may have any: " + bell, x.hearer(STOP, bell, bell), next++);
        }
    }

    private void hearerBadHearer() {
        sentence("Promise 4", "HEARER (a of 8 to 14, b of 11) and are none;");
        House x = new House();
        int next = 2;
        for (int sort = FIRST; sort <= BIND; sort++) {
            due("a 0 of " + sort, x.hearer(sort, 0, 0), next++);
            due("the latest as a of " + sort, x.hearer(sort, next - 1, 1), next++);
            due("the one to come as a of " + sort, x.hearer(sort, next, 0), BAD);
        }
        due("the latest as b of BOTH", x.hearer(BOTH, 0, next - 1), next++);
        due("the one to come as b of BOTH", x.hearer(BOTH, 0, next), BAD);
        for (int wrong : new int[] {-1, 13, 39, 40, MIN, MAX}) {
            refused("hearer " + wrong, BAD, Edges::furnish,
                    y -> y.hearer(FIRST, wrong, 1), y -> y.hearer(EACH, wrong, 1), y -> y.hearer(IF, wrong, 1),
                    y -> y.hearer(BOTH, wrong, 0), y -> y.hearer(BOTH, 0, wrong), y -> y.hearer(TRY, wrong, 1),
                    y -> y.hearer(CUT, wrong, 0), y -> y.hearer(BIND, wrong, 0));
        }
    }

    private void hearerFull() {
        sentence("Promise 4", "FULL: 40.");
        House x = new House();
        for (int hearer = 2; hearer <= 38; hearer++) {
            x.hearer(ADD, 0, 0);
        }
        due("39 hearers", x.count(0), 39);
        due("the 40th", x.hearer(RING, 0, 0), 39);
        due("the 41st", x.hearer(RING, 0, 0), FULL);
        due("the 41st by the 40th", x.hearer(BOTH, 39, 39), FULL);
        due("hearers", x.count(0), 40);
        due("a number that is none such", x.hearer(BOTH, 39, 40), BAD);
    }

    private void bind() {
        sentence("Promise 5", "A HEARER comes behind a BELL's LINE: its place there, from 0 on.");
        House x = new House();
        int first = x.count(0);
        for (int place = 0; place < 12; place++) {
            int hearer = x.hearer(ADD, 0, 0);
            due("place " + place, x.bind(hearer, 5), place);
            due("at place " + place, x.line(5, place), hearer);
        }
        due("one leaves", x.leave(first, 5), 0);
        due("and comes behind", x.bind(first, 5), 11);
        due("from 0 on in another line", x.bind(first, 0), 0);
    }

    private void bindBad() {
        sentence("Promise 5", "BAD;");
        refused("bind", BAD, Edges::furnish, y -> y.bind(-1, 0), y -> y.bind(13, 0), y -> y.bind(MIN, 0),
                y -> y.bind(MAX, 0), y -> y.bind(0, -1), y -> y.bind(0, 6), y -> y.bind(0, MIN), y -> y.bind(0, MAX));
    }

    private void bindFull() {
        sentence("Promise 5", "FULL: 12 are there;");
        House x = new House();
        int first = twelveInLine(x, 1);
        due("a thirteenth", x.bind(0, 1), FULL);
        due("a thirteenth that is none such", x.bind(first + 12, 1), BAD);
        x.leave(first + 11, 1);
        due("11 are there", x.bind(0, 1), 11);
        due("12 are there", x.bind(first + 11, 1), FULL);
        refused("bind", FULL, y -> twelveInLine(y, 1), y -> y.bind(0, 1), y -> y.bind(1, 1));
    }

    private void bindNone() {
        sentence("Promise 5", "NONE (ahead of FULL): it is in it.");
        House x = new House();
        int first = twelveInLine(x, 1);
        due("the first of a full line", x.bind(first, 1), NONE);
        due("the last of a full line", x.bind(first + 11, 1), NONE);
        due("one that is not in it", x.bind(0, 1), FULL);
        x.leave(first, 1);
        due("the first of a line with room", x.bind(first + 1, 1), NONE);
        due("one that left", x.bind(first, 1), 11);
        refused("bind", NONE, y -> {
            furnish(y);
            twelveInLine(y, 3);
        }, y -> y.bind(2, 0), y -> y.bind(8, 0), y -> y.bind(13, 3), y -> y.bind(24, 3));
    }

    private void leave() {
        sentence("Promise 6", "A HEARER leaves a BELL's LINE: which place it had;");
        for (int place = 0; place < 12; place++) {
            House x = new House();
            int first = twelveInLine(x, 5);
            due("place " + place, x.leave(first + place, 5), place);
            for (int at = 0; at < 11; at++) {
                due("without " + place + ", at " + at, x.line(5, at), first + at + (at < place ? 0 : 1));
            }
            due("without " + place + ", no twelfth", x.line(5, 11), NONE);
        }
        House x = new House();
        x.bind(0, 0);
        x.bind(0, 5);
        due("the only one", x.leave(0, 0), 0);
        due("the line is empty", x.line(0, 0), NONE);
        due("the other line stays", x.line(5, 0), 0);
    }

    private void leaveNone() {
        sentence("Promise 6", "NONE: it was not there.");
        House x = new House();
        due("an empty line", x.leave(0, 0), NONE);
        x.bind(1, 0);
        due("a line of another", x.leave(0, 0), NONE);
        x.bind(0, 1);
        due("it is in another line", x.leave(0, 0), NONE);
        x.bind(0, 0);
        due("it was there", x.leave(0, 0), 1);
        due("it was there once", x.leave(0, 0), NONE);
        refused("leave", NONE, Edges::furnish, y -> y.leave(0, 0), y -> y.leave(2, 1), y -> y.leave(7, 3));
    }

    private void leaveBad() {
        sentence("Promise 6", "BAD.");
        refused("leave", BAD, Edges::furnish, y -> y.leave(-1, 0), y -> y.leave(13, 0), y -> y.leave(MIN, 0),
                y -> y.leave(MAX, 0), y -> y.leave(2, -1), y -> y.leave(2, 6), y -> y.leave(2, MIN),
                y -> y.leave(2, MAX));
    }

    private void take() {
        sentence("Promise 7", "A HEARER has no ACT any more: 1;");
        House x = new House();
        int more = x.hearer(ADD, 1, 0);
        x.bind(more, 0);
        due("it had one", x.act(more, 0), 1);
        due("take", x.take(more), 1);
        due("it has none", x.act(more, 0), EMPTY);
        due("it stays in line", x.line(0, 0), more);
        due("others have theirs", x.act(0, 0), 1);
        x.lend(more, 0);
        due("a lent one", x.take(more), 1);
        due("who lent it has it", x.act(0, 0), 1);
        due("it has none again", x.act(more, 0), EMPTY);
    }

    private void takeNone() {
        sentence("Promise 7", "0: it had none.");
        House x = new House();
        due("it had one", x.take(0), 1);
        due("it had none", x.take(0), 0);
        due("still none", x.take(0), 0);
        x.lend(1, 0);
        due("none was lent to it", x.take(1), 0);
        House y = new House();
        y.lend(0, 1);
        due("one was lent to it", y.take(0), 1);
        due("then none", y.take(0), 0);
    }

    private void takeBad() {
        sentence("Promise 7", "BAD.");
        refused("take", BAD, Edges::furnish, y -> y.take(-1), y -> y.take(13), y -> y.take(39), y -> y.take(40),
                y -> y.take(MIN), y -> y.take(MAX));
        House x = new House();
        due("the last that has come", x.take(1), 1);
        due("the first that has not", x.take(2), BAD);
    }

    private void lend() {
        sentence("Promise 8", "A HEARER has the ACT that another one has (the very one,");
        House x = new House();
        int twice = x.hearer(FIRST, 0, 2);
        int more = x.hearer(ADD, 1, 0);
        due("lend", x.lend(more, twice), 1);
        due("the first time", x.act(more, 5), 2);
        due("the second time", x.act(twice, 5), 2);
        due("the very one: then nothing", x.act(more, 5), 1);
        due("its times", x.done(twice), 3);
        due("its own was not done", x.done(more) + x.get(1), 0);
        x.take(twice);
        due("it stays lent", x.act(more, 5), 1);
        due("lent on", x.lend(1, more), 1);
        due("by one that had it lent", x.act(1, 5), 1);
        due("its times", x.done(twice), 5);
    }

    private void lendNone() {
        sentence("Promise 8", "or none): 1.");
        House x = new House();
        int none = noAct(x);
        due("none", x.lend(0, none), 1);
        due("it has none", x.act(0, 5), EMPTY);
        due("none to one that has none", x.lend(0, none), 1);
        due("one to one that has none", x.lend(none, 1), 1);
        due("it has one", x.act(none, 5), 1);
        due("to itself", x.lend(none, none), 1);
        due("it has it", x.act(none, 5), 1);
        due("STOPS", x.count(6), 2);
    }

    private void lendBad() {
        sentence("Promise 8", "BAD.");
        refused("lend", BAD, Edges::furnish, y -> y.lend(-1, 2), y -> y.lend(13, 2), y -> y.lend(MIN, 2),
                y -> y.lend(MAX, 2), y -> y.lend(2, -1), y -> y.lend(2, 13), y -> y.lend(2, MIN), y -> y.lend(2, MAX),
                y -> y.lend(13, 13));
        House x = new House();
        due("the last that has come", x.lend(0, 1), 1);
        due("from the first that has not", x.lend(0, 2), BAD);
        due("to the first that has not", x.lend(2, 0), BAD);
    }

    private void ring() {
        sentence("Promise 9", "A BELL is RUNG with v, then THE QUEUE: how many STEPS;");
        House x = new House();
        due("none", x.ring(0, 9), 0);
        x.bind(0, 0);
        due("one", x.ring(0, 9), 1);
        due("with v", x.get(0), 9);
        int later = x.hearer(LATER, 1, 1);
        bindAll(x, 0, later);
        x.bind(0, 1);
        due("then THE QUEUE", x.ring(0, 9), 3);
        due("with v and with what was laid", x.get(0), 9 + 9 + 10);
        x.act(laying(x, 1), 50);
        due("what was laid earlier", x.ring(5, 0), 1);
        due("with its own value", x.get(0), 78);
        House y = new House();
        y.bind(making(y, 200), 3);
        due("200", y.ring(3, 0), 200);
        due("RINGINGS", y.count(2), 1);
    }

    private void ringFails() {
        sentence("Promise 9", "-10 less the FAILURE.");
        House x = new House();
        int none = noAct(x);
        bindAll(x, 0, x.hearer(SHARE, 1, 0), x.hearer(POINT, 0, 0), none);
        due("ZERO", x.ring(0, 0), -11);
        due("PLACE", x.ring(0, 8), -12);
        due("EMPTY", x.ring(0, 7), -13);
        x.bind(doubled(x, x.hearer(LATER, 5, 0), 5), 1);
        due("ROOM", x.ring(1, 0), -14);
        x.bind(x.hearer(RING, 2, 0), 2);
        due("DEEP", x.ring(2, 0), -15);
        x.bind(doubled(x, 0, 7), 3);
        due("SPENT", x.ring(3, 0), -16);
        x.lend(none, 0);
        due("well again", x.ring(0, 7), 3);
    }

    private void ringRefused() {
        sentence("Promise 9", "BAD; FULL.");
        refused("ring", BAD, Edges::furnish, y -> y.ring(-1, 1), y -> y.ring(6, 1), y -> y.ring(MIN, 1),
                y -> y.ring(MAX, 1));
        refused("ring at 2000", FULL, y -> {
            furnish(y);
            meetFailures(y, 2000);
        }, y -> y.ring(0, 1), y -> y.ring(4, 1));
        House x = new House();
        meetFailures(x, 1999);
        due("at 1999", x.ring(0, 0), 0);
    }

    private void drain() {
        sentence("Promise 10", "THE QUEUE alone:");
        House x = new House();
        x.bind(0, 3);
        int laying = laying(x, 3);
        due("an empty one", x.drain(), 0);
        due("no RINGING", x.count(2), 0);
        x.act(laying, 5);
        due("one entry", x.drain(), 1);
        due("with its value", x.get(0), 5);
        due("it alone was rung", x.count(2), 1);
        due("then it is empty", x.drain(), 0);
        for (int i = 1; i <= 20; i++) {
            x.act(laying, i);
        }
        due("20 entries", x.drain(), 20);
        due("each with its value", x.get(0), 5 + 210);
    }

    private void drainLikewise() {
        sentence("Promise 10", "likewise.");
        House x = new House();
        int laying = laying(x, 3);
        x.bind(making(x, 200), 3);
        x.act(laying, 0);
        due("200 STEPS", x.drain(), 200);
        x.act(laying, 0);
        x.act(laying, 0);
        due("201 STEPS", x.drain(), SPENT);
        due("none are left in THE QUEUE", x.count(7), 0);
        House y = new House();
        laying = laying(y, 3);
        bindAll(y, 3, y.hearer(SHARE, 1, 0), y.hearer(POINT, 0, 0), 1);
        y.act(laying, 0);
        y.act(laying, 8);
        y.act(laying, 7);
        due("ZERO", y.drain(), ZERO);
        due("PLACE", y.drain(), PLACE);
        due("well", y.drain(), 3);
        due("calls that FAILED", y.count(4), 5);
    }

    private void drainFull() {
        sentence("Promise 10", "FULL.");
        House x = new House();
        int laying = laying(x, 3);
        x.bind(0, 3);
        meetFailures(x, 1998);
        x.act(laying, 5);
        due("at 1999", x.count(9), 1999);
        due("it is rung", x.drain(), 1);
        x.act(laying, 5);
        due("at 2000", x.count(9), 2000);
        due("it is not", x.drain(), FULL);
        due("the entry stays", x.queued(0), 3);
        refused("drain at 2000", FULL, y -> {
            int lays = laying(y, 2);
            y.bind(0, 2);
            meetFailures(y, 1999);
            y.act(lays, 6);
        }, y -> y.drain(), y -> y.drain());
    }

    private void act() {
        sentence("Promise 11", "A HEARER's ACT is done alone, in no RINGING");
        House x = new House();
        int more = x.hearer(ADD, 1, 0);
        bindAll(x, 0, more, 0);
        due("alone", x.act(more, 6), 1);
        due("with v", x.get(1), 6);
        due("nobody beside it in line", x.get(0), 0);
        due("no RINGING", x.count(2), 0);
        x.way(0, SOFT);
        x.take(more);
        due("no SOFT bell meets its FAILURE", x.act(more, 6), EMPTY);
        due("no MISS", x.count(3), 0);
        House y = new House();
        int ring = y.hearer(RING, 0, 0);
        y.bind(y.hearer(FIRST, ring, 7), 0);
        due("so 8 RINGINGS may be in it", y.act(ring, 0), 16);
    }

    private void actStops() {
        sentence("Promise 11", "(a STOP ends it, well),");
        House x = new House();
        due("STOP", x.act(1, 0), 1);
        int stopAdd = x.hearer(BOTH, 1, 0);
        due("what is behind it is not done", x.act(stopAdd, 5), 2);
        due("the tally stays", x.get(0), 0);
        due("no failed call", x.count(4) + x.count(8) + x.count(9), 0);
        due("STOPS", x.count(6), 2);
        int ring = x.hearer(RING, 0, 0);
        x.bind(1, 0);
        due("a STOP in a RINGING ends that alone", x.act(x.hearer(BOTH, ring, 0), 5), 4);
        due("what is behind the RING is done", x.get(0), 5);
    }

    private void actThenQueue() {
        sentence("Promise 11", "then THE QUEUE: likewise;");
        House x = new House();
        x.bind(0, 4);
        int later = x.hearer(LATER, 4, 1);
        due("then THE QUEUE", x.act(later, 5), 2);
        due("it was rung", x.get(0), 6);
        due("after a STOP, too", x.act(x.hearer(BOTH, later, 1), 5), 4);
        due("it was rung again", x.get(0), 12);
        int laying = laying(x, 4);
        due("not after a FAILURE", x.act(laying, 5), EMPTY);
        due("it was not rung", x.get(0), 12);
        due("THE QUEUE waits", x.count(7), 1);
        due("likewise -10 less ZERO", x.act(x.hearer(SHARE, 1, 0), 0), ZERO);
        due("likewise -10 less PLACE", x.act(x.hearer(POINT, 1, 0), -1), PLACE);
        due("likewise how many STEPS", x.act(making(x, 199), 0), 200);
        due("with what was laid", x.get(0), 17);
    }

    private void actEmpty() {
        sentence("Promise 11", "EMPTY: it has none.");
        House x = new House();
        int laying = laying(x, 4);
        x.act(laying, 5);
        due("it has one", x.act(0, 5), 1);
        x.act(laying, 5);
        x.take(0);
        due("it has none", x.act(0, 5), EMPTY);
        due("THE QUEUE waits", x.count(7), 1);
        due("a call that FAILED", x.count(4), 3);
        due("met by the call", x.count(9), 3);
        due("the FAILURE", x.count(8), 3);
        due("it began once", x.done(0), 1);
        x.lend(0, 1);
        due("one is lent to it", x.act(0, 5), 1);
    }

    private void actRefused() {
        sentence("Promise 11", "BAD; FULL.");
        refused("act", BAD, Edges::furnish, y -> y.act(-1, 1), y -> y.act(13, 1), y -> y.act(39, 1), y -> y.act(40, 1),
                y -> y.act(MIN, 1), y -> y.act(MAX, 1));
        refused("act at 2000", FULL, y -> {
            furnish(y);
            meetFailures(y, 2000);
        }, y -> y.act(0, 1), y -> y.act(1, 1), y -> y.act(9, 1));
        House x = new House();
        meetFailures(x, 1999);
        due("at 1999", x.act(0, 0), 1);
    }

    private void get() {
        sentence("Promise 12", "What TALLY k is;");
        House x = new House();
        for (int k = 0; k <= 7; k++) {
            x.tally(k, FAR * (k + 1) - 4);
        }
        for (int k = 0; k <= 7; k++) {
            due("tally " + k, x.get(k), FAR * (k + 1) - 4);
            due("it stays " + k, x.get(k), FAR * (k + 1) - 4);
        }
    }

    private void getNone() {
        sentence("Promise 12", "0: there is none.");
        House x = new House();
        for (int k = 0; k <= 7; k++) {
            x.tally(k, -2);
        }
        for (int k : new int[] {-1, 8, MIN, MAX}) {
            due("tally " + k, x.get(k), 0);
        }
        due("tally 0", x.get(0), -2);
        due("tally 7", x.get(7), -2);
        refused("get", 0, Edges::furnish, y -> y.get(-1), y -> y.get(8), y -> y.get(MIN), y -> y.get(MAX));
    }

    private void line() {
        sentence("Promise 13", "The HEARER at a place of a BELL's LINE;");
        House x = new House();
        int first = twelveInLine(x, 0);
        for (int place = 0; place < 12; place++) {
            due("place " + place, x.line(0, place), first + place);
        }
        x.bind(first, 5);
        due("of bell 5", x.line(5, 0), first);
    }

    private void lineNone() {
        sentence("Promise 13", "NONE.");
        House x = new House();
        due("an empty line", x.line(0, 0), NONE);
        x.bind(0, 0);
        due("the last", x.line(0, 0), 0);
        due("behind the last", x.line(0, 1), NONE);
        due("ahead of the first", x.line(0, -1), NONE);
        x.leave(0, 0);
        due("it left", x.line(0, 0), NONE);
        twelveInLine(x, 0);
        for (int place : new int[] {-1, 12, MIN, MAX}) {
            due("of a full line " + place, x.line(0, place), NONE);
        }
        refused("line", NONE, Edges::furnish, y -> y.line(0, -1), y -> y.line(0, 3), y -> y.line(3, 0),
                y -> y.line(0, 12), y -> y.line(0, MIN), y -> y.line(0, MAX));
    }

    private void lineBad() {
        sentence("Promise 13", "BAD: no BELL.");
        House x = new House();
        due("bell 0", x.line(0, 0), NONE);
        due("bell 5", x.line(5, 0), NONE);
        refused("line", BAD, Edges::furnish, y -> y.line(-1, 0), y -> y.line(6, 0), y -> y.line(MIN, 0),
                y -> y.line(MAX, 0), y -> y.line(-1, -1), y -> y.line(6, 12));
    }

    private void queued() {
        sentence("Promise 14", "The BELL of entry i of THE QUEUE;");
        House x = new House();
        int[] laying = new int[6];
        for (int bell = 0; bell <= 5; bell++) {
            laying[bell] = laying(x, bell);
        }
        for (int i = 0; i < 20; i++) {
            x.act(laying[i * 5 % 6], i);
        }
        for (int i = 0; i < 20; i++) {
            due("entry " + i, x.queued(i), i * 5 % 6);
        }
        due("all are rung", x.drain(), 0);
        for (int i = 0; i < 7; i++) {
            x.act(laying[i % 6], i);
        }
        for (int i = 0; i < 7; i++) {
            due("laid after that, entry " + i, x.queued(i), i % 6);
        }
    }

    private void queuedNone() {
        sentence("Promise 14", "NONE.");
        House x = new House();
        int laying = laying(x, 5);
        due("an empty one", x.queued(0), NONE);
        x.act(laying, 0);
        due("the last", x.queued(0), 5);
        due("behind the last", x.queued(1), NONE);
        due("ahead of the first", x.queued(-1), NONE);
        for (int i = 1; i < 20; i++) {
            x.act(laying, 0);
        }
        due("entry 19 of 20", x.queued(19), 5);
        for (int i : new int[] {-1, 20, MIN, MAX}) {
            due("of a full one " + i, x.queued(i), NONE);
        }
        refused("queued", NONE, Edges::furnish, y -> y.queued(-1), y -> y.queued(2), y -> y.queued(19),
                y -> y.queued(20), y -> y.queued(MIN), y -> y.queued(MAX));
    }

    private void countHearersStepsRingings() {
        sentence("Promise 15", "Ever: 0 HEARERS, 1 STEPS, 2 RINGINGS that began,");
        House x = new House();
        due("HEARERS at first", x.count(0), 2);
        due("STEPS at first", x.count(1), 0);
        due("RINGINGS at first", x.count(2), 0);
        int none = noAct(x);
        due("HEARERS", x.count(0), 3);
        bindAll(x, 0, 0, none);
        due("a call that FAILED", x.ring(0, 0), EMPTY);
        due("its STEPS", x.count(1), 1);
        due("its RINGING", x.count(2), 1);
        due("an empty line", x.ring(5, 0), 0);
        due("its RINGING, too", x.count(2), 2);
        x.act(0, 0);
        due("STEPS of all calls", x.count(1), 2);
        due("no RINGING", x.count(2), 2);
        x.bind(x.hearer(RING, 3, 0), 3);
        due("DEEP", x.ring(3, 0), DEEP);
        due("the ninth did not begin", x.count(2), 10);
        due("STEPS with the RING that was DEEP", x.count(1), 10);
        due("a bell that is none", x.ring(6, 0), BAD);
        due("no RINGING began", x.count(2), 10);
    }

    private void countMissesFailedTries() {
        sentence("Promise 15", "3 MISSES, 4 calls that FAILED, 5 how often a TRY met a FAILURE,");
        House x = new House();
        int share = x.hearer(SHARE, 1, 0);
        int tried = x.hearer(TRY, share, 7);
        x.way(0, SOFT);
        bindAll(x, 0, share, tried, share);
        x.bind(share, 1);
        counts(x, "at first", 0, 0, 0);
        x.ring(0, 0);
        counts(x, "a MISS and a TRY", 1, 0, 1);
        x.ring(1, 0);
        counts(x, "a call that FAILED", 1, 1, 1);
        x.act(tried, 0);
        counts(x, "a TRY", 1, 1, 2);
        x.act(share, 0);
        counts(x, "an act that FAILED", 1, 2, 2);
        x.ring(0, 1);
        x.act(tried, 1);
        x.drain();
        counts(x, "all well", 1, 2, 2);
        x.ring(6, 0);
        x.act(40, 0);
        x.bind(share, 0);
        counts(x, "refused calls are none that FAILED", 1, 2, 2);
        x.act(x.hearer(BOTH, x.hearer(LATER, 1, 0), 1), 0);
        counts(x, "THE QUEUE FAILED", 1, 3, 2);
    }

    private void counts(House x, String what, int misses, int failed, int tries) {
        due(what + ": MISSES", x.count(3), misses);
        due(what + ": calls that FAILED", x.count(4), failed);
        due(what + ": how often a TRY met a FAILURE", x.count(5), tries);
    }

    private void countStops() {
        sentence("Promise 15", "6 STOPS;");
        House x = new House();
        due("at first", x.count(6), 0);
        x.act(1, 0);
        due("by act", x.count(6), 1);
        int second = x.hearer(STOP, 5, 5);
        bindAll(x, 0, second, 1);
        x.ring(0, 0);
        due("in a RINGING, one", x.count(6), 2);
        x.bind(x.hearer(BOTH, x.hearer(RING, 0, 0), 1), 1);
        x.ring(1, 0);
        due("in two RINGINGS", x.count(6), 4);
        x.act(x.hearer(FIRST, 1, 0), 0);
        due("one that is not done", x.count(6), 4);
    }

    private void countQueue() {
        sentence("Promise 15", "7 how many are in THE QUEUE;");
        House x = new House();
        int laying = laying(x, 2);
        due("none", x.count(7), 0);
        for (int i = 1; i <= 20; i++) {
            x.act(laying, 0);
            due("so many", x.count(7), i);
        }
        x.act(laying, 0);
        due("never 21", x.count(7), 20);
        x.drain();
        due("none again", x.count(7), 0);
    }

    private void countLatest() {
        sentence("Promise 15", "8 the FAILURE of the latest call that FAILED (0: none);");
        House x = new House();
        int share = x.hearer(SHARE, 1, 0);
        int point = x.hearer(POINT, 0, 0);
        int tried = x.hearer(TRY, share, 7);
        due("none", x.count(8), 0);
        x.act(tried, 0);
        due("one that a TRY met is of no call that FAILED", x.count(8), 0);
        x.way(0, SOFT);
        x.bind(share, 0);
        x.ring(0, 0);
        due("nor is one that a SOFT bell met", x.count(8), 0);
        x.act(point, 8);
        due("PLACE", x.count(8), 2);
        x.act(share, 0);
        due("ZERO", x.count(8), 1);
        x.act(point, 8);
        x.act(tried, 0);
        x.ring(0, 0);
        x.act(0, 0);
        x.drain();
        x.ring(6, 0);
        due("it stays", x.count(8), 2);
    }

    private void countMet() {
        sentence("Promise 15", "9 FAILURES MET ever.");
        House x = new House();
        due("none", x.count(9), 0);
        int share = x.hearer(SHARE, 1, 0);
        int tried = x.hearer(TRY, share, 7);
        x.way(0, SOFT);
        bindAll(x, 0, share, tried);
        x.ring(0, 0);
        due("a MISS and a TRY", x.count(9), 2);
        x.act(share, 0);
        due("and a call", x.count(9), 3);
        x.ring(0, 1);
        due("well", x.count(9), 3);
        x.ring(6, 0);
        due("refused", x.count(9), 3);
        meetFailures(x, 2000);
        due("2000", x.count(9), 2000);
        x.ring(0, 0);
        due("not more when FULL", x.count(9), 2000);
    }

    private void countBad() {
        sentence("Promise 15", "BAD.");
        House x = new House();
        due("0", x.count(0), 2);
        due("9", x.count(9), 0);
        refused("count", BAD, Edges::furnish, y -> y.count(-1), y -> y.count(10), y -> y.count(MIN),
                y -> y.count(MAX));
    }

    private void done() {
        sentence("Promise 16",
                "How often the HEARER's own ACT (the one made with it, whoever had it) began ever.");
        House x = new House();
        int first = x.hearer(FIRST, 0, 1);
        int borrower = x.hearer(ADD, 1, 0);
        due("never", x.done(0), 0);
        x.act(0, 5);
        due("by itself", x.done(0), 1);
        x.act(first, 5);
        due("by another's act", x.done(0), 2);
        x.act(first, 5);
        due("not if it did not begin", x.done(0), 2);
        due("the other's own", x.done(first), 2);
        x.lend(borrower, 0);
        x.act(borrower, 5);
        due("by one that it is lent to", x.done(0), 3);
        due("not the borrower's own", x.done(borrower), 0);
        x.take(0);
        x.act(borrower, 5);
        due("taken from itself", x.done(0), 4);
        due("it has none", x.act(0, 5), EMPTY);
        due("then it does not begin", x.done(0), 4);
        int share = x.hearer(SHARE, 1, 0);
        x.act(share, 0);
        due("one that failed began", x.done(share), 1);
        int spent = doubled(x, 1, 1);
        x.act(spent, 0);
        due("one behind a STOP did not", x.done(1), 1);
    }

    private void doneBad() {
        sentence("Promise 16", "BAD.");
        House x = new House();
        due("the last that has come", x.done(1), 0);
        due("the first that has not", x.done(2), BAD);
        refused("done", BAD, Edges::furnish, y -> y.done(-1), y -> y.done(13), y -> y.done(39), y -> y.done(40),
                y -> y.done(MIN), y -> y.done(MAX));
    }
}
