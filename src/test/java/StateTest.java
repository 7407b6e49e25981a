/** The promises that set and tell the state: 1 to 8 and 12 to 16, with edges and wrong inputs. */
public final class StateTest {
    private static final int NONE = BellHouse.NONE, BAD = BellHouse.BAD, FULL = BellHouse.FULL;
    private static final int MIN = Integer.MIN_VALUE, MAX = Integer.MAX_VALUE;
    private static final Check check = new Check();

    public static void main(String[] args) {
        newObject();
        newObjectsHearers();
        tallyAndGet();
        way();
        hearerBad();
        hearerGood();
        hearerFull();
        bindAndLine();
        bindFull();
        leave();
        take();
        lend();
        queued();
        countAndDoneBad();
        countAll();
        done();
        check.end();
    }

    private static void newObject() {
        House x = new House();
        for (int k = 0; k < 8; k++) {
            check.due("1 new: get " + k, x.get(k), 0);
        }
        for (int bell = 0; bell < 6; bell++) {
            check.due("1 new: line " + bell, x.line(bell, 0), NONE);
        }
        check.due("1 new: hearers", x.count(0), 2);
        for (int what = 1; what <= 9; what++) {
            check.due("1 new: count " + what, x.count(what), 0);
        }
        check.due("1 new: queued", x.queued(0), NONE);
        check.due("1 new: done 0", x.done(0), 0);
        check.due("1 new: done 1", x.done(1), 0);
        check.due("1 new: done 2", x.done(2), BAD);
        for (int bell = 0; bell < 6; bell++) {
            check.due("1 new: way " + bell, x.way(bell, 0), 0);
        }
    }

    private static void newObjectsHearers() {
        House x = new House();
        check.due("1 hearer 0", x.act(0, 7), 1);
        check.due("1 hearer 0 adds to tally 0, of 0", x.get(0), 7);
        check.due("1 hearer 1", x.act(1, 7), 1);
        check.due("1 hearer 1 is STOP", x.count(6), 1);
        check.due("1 hearer 1 leaves tallies", x.get(0), 7);
        House y = new House();
        check.due("1 objects are apart", y.get(0), 0);
    }

    private static void tallyAndGet() {
        House x = new House();
        check.due("2 tally 0", x.tally(0, 5), 1);
        check.due("2 tally 7", x.tally(7, Long.MIN_VALUE), 1);
        check.due("2 tally 3", x.tally(3, Long.MAX_VALUE), 1);
        check.due("12 get 0", x.get(0), 5);
        check.due("12 get 7", x.get(7), Long.MIN_VALUE);
        check.due("12 get 3", x.get(3), Long.MAX_VALUE);
        check.due("12 get 1", x.get(1), 0);
        for (int k : new int[] {-1, 8, MIN, MAX}) {
            check.due("2 tally bad " + k, x.tally(k, 9), BAD);
            check.due("12 get none " + k, x.get(k), 0);
        }
        check.due("2 tally again", x.tally(0, -5), 1);
        check.due("12 get again", x.get(0), -5);
    }

    private static void way() {
        House x = new House();
        check.due("3 way was HARD", x.way(5, 1), 0);
        check.due("3 way was SOFT", x.way(5, 1), 1);
        check.due("3 way bad 2", x.way(5, 2), BAD);
        check.due("3 way bad -1", x.way(5, -1), BAD);
        check.due("3 way bad bell 6", x.way(6, 0), BAD);
        check.due("3 way bad bell -1", x.way(-1, 0), BAD);
        check.due("3 way bad bell MIN", x.way(MIN, 0), BAD);
        check.due("3 way unchanged by BAD", x.way(5, 0), 1);
        check.due("3 way back", x.way(5, 0), 0);
        check.due("3 way of another", x.way(0, 0), 0);
    }

    private static void hearerBad() {
        House x = new House();
        for (int sort : new int[] {-1, 15, MIN, MAX}) {
            check.due("4 sort " + sort, x.hearer(sort, 0, 0), BAD);
        }
        for (int wrong : new int[] {-1, 8, MIN, MAX}) {
            for (int sort = 0; sort <= 3; sort++) {
                check.due("4 tally a of " + sort, x.hearer(sort, wrong, 0), BAD);
            }
            check.due("4 tally b of IF", x.hearer(10, 0, wrong), BAD);
            check.due("4 tally b of TRY", x.hearer(12, 0, wrong), BAD);
        }
        for (int wrong : new int[] {-1, 6, MIN, MAX}) {
            check.due("4 bell a of RING", x.hearer(5, wrong, 0), BAD);
            check.due("4 bell a of LATER", x.hearer(6, wrong, 0), BAD);
            check.due("4 bell b of BIND", x.hearer(14, 0, wrong), BAD);
        }
        for (int wrong : new int[] {-1, 2, 39, 40, MIN, MAX}) {
            for (int sort = 8; sort <= 14; sort++) {
                check.due("4 hearer a of " + sort, x.hearer(sort, wrong, 0), BAD);
            }
            check.due("4 hearer b of BOTH", x.hearer(11, 0, wrong), BAD);
        }
        check.due("4 BAD makes none", x.count(0), 2);
    }

    private static void hearerGood() {
        House x = new House();
        int next = 2;
        for (int sort = 0; sort <= 3; sort++) {
            check.due("4 any b of " + sort, x.hearer(sort, 7, MIN), next++);
        }
        check.due("4 POINT of any", x.hearer(4, MIN, MAX), next++);
        check.due("4 RING", x.hearer(5, 5, MIN), next++);
        check.due("4 LATER", x.hearer(6, 5, MAX), next++);
        check.due("4 STOP of any", x.hearer(7, MIN, MAX), next++);
        check.due("4 FIRST of any b", x.hearer(8, next - 1, MIN), next++);
        check.due("4 EACH of any b", x.hearer(9, 0, MAX), next++);
        check.due("4 IF", x.hearer(10, 1, 7), next++);
        check.due("4 BOTH", x.hearer(11, next - 1, next - 1), next++);
        check.due("4 TRY", x.hearer(12, 1, 7), next++);
        check.due("4 CUT of any b", x.hearer(13, 1, MIN), next++);
        check.due("4 BIND", x.hearer(14, 1, 5), next++);
        check.due("15 hearers", x.count(0), next);
    }

    private static void hearerFull() {
        House x = new House();
        for (int hearer = 2; hearer < 40; hearer++) {
            check.due("4 hearer " + hearer, x.hearer(0, 0, 0), hearer);
        }
        check.due("4 FULL", x.hearer(0, 0, 0), FULL);
        check.due("4 BAD ahead of FULL", x.hearer(0, 8, 0), BAD);
        check.due("4 BAD ahead of FULL, of hearer 40", x.hearer(8, 40, 0), BAD);
        check.due("4 FULL of hearer 39", x.hearer(8, 39, 0), FULL);
        check.due("15 hearers at most", x.count(0), 40);
        check.due("16 done 39", x.done(39), 0);
        check.due("16 done 40", x.done(40), BAD);
    }

    private static void bindAndLine() {
        House x = new House();
        check.due("5 first place", x.bind(1, 2), 0);
        check.due("5 second place", x.bind(0, 2), 1);
        check.due("5 in it", x.bind(1, 2), NONE);
        check.due("5 another line", x.bind(1, 5), 0);
        check.due("5 bad hearer 2", x.bind(2, 2), BAD);
        check.due("5 bad hearer -1", x.bind(-1, 2), BAD);
        check.due("5 bad bell 6", x.bind(0, 6), BAD);
        check.due("5 bad bell -1", x.bind(0, -1), BAD);
        check.due("13 place 0", x.line(2, 0), 1);
        check.due("13 place 1", x.line(2, 1), 0);
        check.due("13 place 2", x.line(2, 2), NONE);
        check.due("13 place -1", x.line(2, -1), NONE);
        check.due("13 place MIN", x.line(2, MIN), NONE);
        check.due("13 place MAX", x.line(2, MAX), NONE);
        check.due("13 place 12", x.line(2, 12), NONE);
        check.due("13 other bell", x.line(5, 0), 1);
        check.due("13 bad bell 6", x.line(6, 0), BAD);
        check.due("13 bad bell -1", x.line(-1, -1), BAD);
        check.due("13 bad bell MAX", x.line(MAX, 0), BAD);
    }

    private static void bindFull() {
        House x = new House();
        for (int hearer = 2; hearer < 14; hearer++) {
            x.hearer(0, 0, 0);
            check.due("5 place of " + hearer, x.bind(hearer, 0), hearer - 2);
        }
        check.due("5 FULL", x.bind(0, 0), FULL);
        check.due("5 NONE ahead of FULL", x.bind(13, 0), NONE);
        check.due("5 BAD ahead of FULL", x.bind(14, 0), BAD);
        check.due("13 last place", x.line(0, 11), 13);
        check.due("13 behind the last", x.line(0, 12), NONE);
        check.due("6 leave a full line", x.leave(2, 0), 0);
        check.due("5 place again", x.bind(0, 0), 11);
        check.due("13 first is next", x.line(0, 0), 3);
        check.due("13 last is new", x.line(0, 11), 0);
    }

    private static void leave() {
        House x = new House();
        x.hearer(0, 0, 0);
        x.bind(0, 1);
        x.bind(1, 1);
        x.bind(2, 1);
        x.bind(1, 0);
        check.due("6 place it had", x.leave(1, 1), 1);
        check.due("6 not there", x.leave(1, 1), NONE);
        check.due("6 never there", x.leave(1, 2), NONE);
        check.due("6 others move up", x.line(1, 1), 2);
        check.due("6 line is shorter", x.line(1, 2), NONE);
        check.due("6 other line stays", x.line(0, 0), 1);
        check.due("6 bad hearer 3", x.leave(3, 1), BAD);
        check.due("6 bad hearer -1", x.leave(-1, 1), BAD);
        check.due("6 bad bell 6", x.leave(0, 6), BAD);
        check.due("6 bad bell -1", x.leave(0, -1), BAD);
        check.due("6 last place", x.leave(2, 1), 1);
        check.due("6 only place", x.leave(0, 1), 0);
        check.due("6 empty", x.line(1, 0), NONE);
    }

    private static void take() {
        House x = new House();
        check.due("7 had one", x.take(0), 1);
        check.due("7 had none", x.take(0), 0);
        check.due("7 bad 2", x.take(2), BAD);
        check.due("7 bad -1", x.take(-1), BAD);
        check.due("7 bad MIN", x.take(MIN), BAD);
        check.due("7 EMPTY", x.act(0, 1), -13);
        check.due("7 another keeps its own", x.act(1, 1), 1);
        check.due("7 still a hearer", x.bind(0, 0), 0);
    }

    private static void lend() {
        House x = new House();
        check.due("4 FIRST of hearer 0, once", x.hearer(8, 0, 1), 2);
        check.due("4 one more", x.hearer(0, 1, 0), 3);
        check.due("8 lend", x.lend(3, 2), 1);
        check.due("8 the very one: first time", x.act(3, 5), 2);
        check.due("8 the very one: second time", x.act(2, 5), 1);
        check.due("8 tally 0", x.get(0), 5);
        check.due("8 tally 1", x.get(1), 0);
        check.due("16 done of the lender's own", x.done(2), 2);
        check.due("16 done of the borrower's own", x.done(3), 0);
        check.due("7 the lender's is taken", x.take(2), 1);
        check.due("8 the borrower keeps it", x.act(3, 5), 1);
        check.due("8 lend none", x.lend(3, 2), 1);
        check.due("8 has none", x.act(3, 5), -13);
        check.due("7 had none by lend", x.take(3), 0);
        check.due("8 to itself", x.lend(0, 0), 1);
        check.due("8 to itself stays", x.act(0, 1), 1);
        check.due("8 bad 4", x.lend(4, 0), BAD);
        check.due("8 bad from 4", x.lend(0, 4), BAD);
        check.due("8 bad -1", x.lend(-1, 0), BAD);
        check.due("8 bad from -1", x.lend(0, -1), BAD);
    }

    private static void queued() {
        House x = new House();
        check.due("4 LATER bell 3", x.hearer(6, 3, 0), 2);
        check.due("4 LATER bell 4", x.hearer(6, 4, 0), 3);
        check.due("4 BOTH", x.hearer(11, 2, 3), 4);
        check.due("4 POINT", x.hearer(4, 0, 0), 5);
        check.due("4 BOTH, then fail", x.hearer(11, 4, 5), 6);
        check.due("11 PLACE leaves the queue", x.act(6, -1), -12);
        check.due("14 entry 0", x.queued(0), 3);
        check.due("14 entry 1", x.queued(1), 4);
        check.due("14 entry 2", x.queued(2), NONE);
        check.due("14 entry -1", x.queued(-1), NONE);
        check.due("14 entry 20", x.queued(20), NONE);
        check.due("14 entry MIN", x.queued(MIN), NONE);
        check.due("14 entry MAX", x.queued(MAX), NONE);
        check.due("15 in the queue", x.count(7), 2);
        check.due("10 drained", x.drain(), 0);
        check.due("14 drained", x.queued(0), NONE);
        check.due("15 none in the queue", x.count(7), 0);
    }

    private static void countAndDoneBad() {
        House x = new House();
        for (int wrong : new int[] {-1, 10, MIN, MAX}) {
            check.due("15 bad " + wrong, x.count(wrong), BAD);
            check.due("16 bad " + wrong, x.done(wrong), BAD);
        }
    }

    private static void countAll() {
        House x = new House();
        x.hearer(4, 0, 1);
        x.hearer(12, 2, 7);
        x.hearer(7, 0, 0);
        x.bind(3, 0);
        x.bind(2, 0);
        x.bind(4, 0);
        x.bind(0, 0);
        x.way(0, 1);
        check.due("9 TRY, MISS, STOP", x.ring(0, 99), 4);
        x.way(0, 0);
        check.due("9 HARD", x.ring(0, 99), -12);
        check.due("11 EMPTY", x.take(0) + x.act(0, 0), -12);
        check.due("15 hearers", x.count(0), 5);
        check.due("15 steps", x.count(1), 7);
        check.due("15 ringings", x.count(2), 2);
        check.due("15 misses", x.count(3), 1);
        check.due("15 failed calls", x.count(4), 2);
        check.due("15 met by tries", x.count(5), 2);
        check.due("15 stops", x.count(6), 1);
        check.due("15 queue", x.count(7), 0);
        check.due("15 latest failure", x.count(8), 3);
        check.due("15 failures met", x.count(9), 5);
        check.due("10 drain does well", x.drain(), 0);
        check.due("15 latest failure stays", x.count(8), 3);
        check.due("9 bad call is none that failed", x.ring(6, 0), BAD);
        check.due("15 failed calls stay", x.count(4), 2);
    }

    private static void done() {
        House x = new House();
        x.hearer(11, 0, 0);
        x.hearer(11, 2, 0);
        x.take(0);
        check.due("16 as made", x.act(3, 1), 5);
        check.due("16 own, by others", x.done(0), 3);
        check.due("16 own, in another", x.done(2), 1);
        check.due("16 own", x.done(3), 1);
        check.due("16 not at all", x.done(1), 0);
    }
}
