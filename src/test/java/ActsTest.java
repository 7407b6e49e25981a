/** Each sort of act, done alone by promise 11 (act), with its edges and failures. */
public final class ActsTest {
    private static final int BAD = BellHouse.BAD, NONE = BellHouse.NONE;
    private static final int ZERO = -11, PLACE = -12, EMPTY = -13, ROOM = -14;
    private static final int MIN = Integer.MIN_VALUE, MAX = Integer.MAX_VALUE;
    private static final Check check = new Check();

    public static void main(String[] args) {
        actBad();
        add();
        most();
        back();
        share();
        point();
        ringAct();
        later();
        stop();
        first();
        firstInsideItself();
        each();
        onlyIf();
        both();
        tryMeets();
        tryLetsPass();
        cut();
        bindAct();
        asMade();
        noneAsMade();
        noneAsMadeButNotDone();
        check.end();
    }

    private static void actBad() {
        House x = new House();
        for (int wrong : new int[] {-1, 2, 40, MIN, MAX}) {
            check.due("11 bad " + wrong, x.act(wrong, 0), BAD);
        }
        check.due("11 BAD makes no step", x.count(1), 0);
    }

    private static void add() {
        House x = new House();
        int add = x.hearer(0, 3, -4);
        check.due("ADD", x.act(add, 10), 1);
        check.due("ADD v and b", x.get(3), 6);
        x.act(add, 10);
        check.due("ADD to itself", x.get(3), 12);
        x.tally(3, Long.MIN_VALUE);
        x.act(add, 0);
        check.due("ADD runs over", x.get(3), Long.MAX_VALUE - 3);
        int much = x.hearer(0, 4, MAX);
        x.act(much, 1);
        check.due("ADD in longs", x.get(4), 2147483648L);
    }

    private static void most() {
        House x = new House();
        int most = x.hearer(1, 2, 100);
        x.act(most, -1);
        check.due("MOST not greater", x.get(2), 0);
        x.act(most, 9);
        check.due("MOST greater", x.get(2), 9);
        x.act(most, 8);
        check.due("MOST less", x.get(2), 9);
        x.tally(2, Long.MIN_VALUE);
        x.act(most, Long.MIN_VALUE + 1);
        check.due("MOST of the least", x.get(2), Long.MIN_VALUE + 1);
    }

    private static void back() {
        House x = new House();
        x.tally(1, 50);
        int back = x.hearer(2, 1, -8);
        x.tally(1, 7);
        check.due("BACK", x.act(back, 1000), 1);
        check.due("BACK as made, and b", x.get(1), 42);
        x.act(back, 1000);
        check.due("BACK again", x.get(1), 42);
        x.tally(1, Long.MAX_VALUE);
        int over = x.hearer(2, 1, 1);
        x.act(over, 0);
        check.due("BACK runs over", x.get(1), Long.MIN_VALUE);
    }

    private static void share() {
        House x = new House();
        int share = x.hearer(3, 6, 9);
        x.tally(6, -7);
        check.due("SHARE", x.act(share, 2), 1);
        check.due("SHARE toward 0", x.get(6), -3);
        check.due("SHARE by 0", x.act(share, 0), ZERO);
        check.due("SHARE by 0 changes nothing", x.get(6), -3);
        check.due("SHARE by 0 is a step", x.count(1), 2);
        check.due("SHARE by 0 is told", x.count(8), 1);
        x.tally(6, Long.MIN_VALUE);
        check.due("SHARE by -1", x.act(share, -1), 1);
        check.due("SHARE runs over", x.get(6), Long.MIN_VALUE);
        x.act(share, 4294967296L);
        check.due("SHARE by a long", x.get(6), -2147483648L);
    }

    private static void point() {
        House x = new House();
        int point = x.hearer(4, 77, -3);
        check.due("POINT 0", x.act(point, 0), 1);
        check.due("POINT 7", x.act(point, 7), 1);
        check.due("POINT 7 again", x.act(point, 7), 1);
        check.due("POINT at 0", x.get(0), -3);
        check.due("POINT at 7", x.get(7), -6);
        for (long wrong : new long[] {-1, 8, 4294967296L, 4294967299L, Long.MIN_VALUE, Long.MAX_VALUE}) {
            check.due("POINT " + wrong, x.act(point, wrong), PLACE);
        }
        check.due("POINT begun", x.done(point), 9);
    }

    private static void ringAct() {
        House x = new House();
        int ring = x.hearer(5, 4, 3);
        x.bind(0, 4);
        check.due("RING", x.act(ring, 10), 2);
        check.due("RING with v and b", x.get(0), 13);
        check.due("RING rings", x.count(2), 1);
        x.tally(0, 0);
        x.act(ring, Long.MAX_VALUE);
        check.due("RING runs over", x.get(0), Long.MIN_VALUE + 2);
    }

    private static void later() {
        House x = new House();
        int later = x.hearer(6, 2, 5);
        int bothAdd = x.hearer(11, later, 0);
        int share = x.hearer(3, 0, 0);
        x.bind(share, 2);
        x.tally(0, 90);
        check.due("LATER is rung behind the act", x.act(bothAdd, 10), 4);
        check.due("LATER with v and b", x.get(0), 100 / 15);
        check.due("LATER ringing", x.count(2), 1);
    }

    private static void stop() {
        House x = new House();
        int later = x.hearer(6, 0, 0);
        int stop = x.hearer(7, 0, 0);
        int stopAdd = x.hearer(11, stop, 0);
        int tried = x.hearer(12, stopAdd, 7);
        int laid = x.hearer(11, later, tried);
        int more = x.hearer(11, laid, 0);
        x.bind(0, 0);
        check.due("STOP ends all of act, then the queue", x.act(more, 4), 7);
        check.due("STOP leaves what is behind it", x.get(0), 4);
        check.due("STOP is no failure", x.get(7), 0);
        check.due("STOP is no failed call", x.count(4), 0);
        check.due("STOP is met by nobody", x.count(9), 0);
        check.due("STOP is counted", x.count(6), 1);
    }

    private static void first() {
        House x = new House();
        int first = x.hearer(8, 0, 2);
        int never = x.hearer(8, 0, 0);
        int less = x.hearer(8, 0, MIN);
        int always = x.hearer(8, 0, MAX);
        check.due("FIRST 1", x.act(first, 1), 2);
        check.due("FIRST 2", x.act(first, 1), 2);
        check.due("FIRST 3", x.act(first, 1), 1);
        check.due("FIRST 4", x.act(first, 1), 1);
        check.due("FIRST of 0", x.act(never, 1), 1);
        check.due("FIRST below 0", x.act(less, 1), 1);
        check.due("FIRST of many", x.act(always, 1), 2);
        check.due("FIRST tally", x.get(0), 3);
    }

    private static void firstInsideItself() {
        House x = new House();
        int ring = x.hearer(5, 0, 1);
        int first = x.hearer(8, ring, 3);
        x.bind(first, 0);
        x.bind(0, 0);
        check.due("FIRST counts as it begins", x.ring(0, 0), 11);
        check.due("FIRST inside itself", x.count(2), 4);
        check.due("FIRST values", x.get(0), 0 + 1 + 2 + 3);
    }

    private static void each() {
        House x = new House();
        int third = x.hearer(9, 0, 3);
        int one = x.hearer(9, 0, 1);
        int zero = x.hearer(9, 0, 0);
        int least = x.hearer(9, 0, MIN);
        int rare = x.hearer(9, 0, MAX);
        int[] due = {1, 1, 2, 1, 1, 2, 1};
        for (int i = 0; i < due.length; i++) {
            check.due("EACH third " + i, x.act(third, 1), due[i]);
            check.due("EACH of 1", x.act(one, 1), 2);
            check.due("EACH of 0", x.act(zero, 1), 2);
            check.due("EACH below 0", x.act(least, 1), 2);
            check.due("EACH of many", x.act(rare, 1), 1);
        }
        check.due("EACH tally", x.get(0), 2 + 7 * 3);
    }

    private static void onlyIf() {
        House x = new House();
        int when = x.hearer(10, 0, 5);
        check.due("IF 0", x.act(when, 1), 1);
        x.tally(5, -1);
        check.due("IF below 0", x.act(when, 1), 1);
        x.tally(5, 1);
        check.due("IF above 0", x.act(when, 1), 2);
        x.tally(5, 4294967296L);
        check.due("IF far above 0", x.act(when, 1), 2);
        check.due("IF tally", x.get(0), 2);
    }

    private static void both() {
        House x = new House();
        int share = x.hearer(3, 0, 0);
        int point = x.hearer(4, 0, 1);
        int addShare = x.hearer(11, 0, share);
        int shareAdd = x.hearer(11, share, 0);
        int sharePoint = x.hearer(11, share, point);
        int pointShare = x.hearer(11, point, share);
        x.tally(0, 10);
        check.due("BOTH", x.act(addShare, 5), 3);
        check.due("BOTH a, then b", x.get(0), 3);
        check.due("BOTH other way", x.act(shareAdd, 3), 3);
        check.due("BOTH b, then a", x.get(0), 4);
        check.due("BOTH: the first fails", x.act(sharePoint, 0), ZERO);
        check.due("BOTH: the second is not done", x.get(0), 4);
        check.due("BOTH: the second fails", x.act(pointShare, 0), ZERO);
        check.due("BOTH: what was done stays", x.get(0), 5);
    }

    private static void tryMeets() {
        House x = new House();
        int share = x.hearer(3, 0, 0);
        int both = x.hearer(11, share, 0);
        int tried = x.hearer(12, both, 6);
        int outer = x.hearer(12, tried, 7);
        check.due("TRY meets", x.act(outer, 0), 4);
        check.due("TRY one more", x.get(6), 1);
        check.due("TRY outside meets none", x.get(7), 0);
        check.due("TRY is counted", x.count(5), 1);
        check.due("TRY met", x.count(9), 1);
        check.due("TRY: no failed call", x.count(4), 0);
        check.due("TRY: no latest failure", x.count(8), 0);
        check.due("TRY: no miss", x.count(3), 0);
        check.due("TRY well", x.act(outer, 2), 5);
        check.due("TRY well: none more", x.get(6), 1);
        x.tally(6, Long.MAX_VALUE);
        x.act(outer, 0);
        check.due("TRY runs over", x.get(6), Long.MIN_VALUE);
    }

    private static void tryLetsPass() {
        House x = new House();
        int again = x.hearer(5, 0, 0);
        x.bind(again, 0);
        x.way(0, 1);
        int tried = x.hearer(12, again, 6);
        check.due("TRY lets DEEP pass", x.act(tried, 0), -15);
        check.due("TRY DEEP: none more", x.get(6), 0);
        check.due("TRY DEEP: SOFT counts no miss", x.count(3), 0);
        check.due("TRY DEEP: met by the call alone", x.count(9), 1);
        House y = new House();
        int twice = y.hearer(11, 0, 0);
        for (int i = 0; i < 7; i++) {
            twice = y.hearer(11, twice, twice);
        }
        tried = y.hearer(12, twice, 6);
        check.due("TRY lets SPENT pass", y.act(tried, 0), -16);
        check.due("TRY SPENT: none more", y.get(6), 0);
        check.due("TRY SPENT: by tries", y.count(5), 0);
        check.due("TRY SPENT: steps", y.count(1), 200);
    }

    private static void cut() {
        House x = new House();
        int cut = x.hearer(13, 0, 0);
        for (int bell = 0; bell < 6; bell++) {
            x.bind(1, bell);
            if (bell != 3) {
                x.bind(0, bell);
            }
            x.bind(cut, bell);
        }
        check.due("CUT", x.act(cut, 0), 1);
        for (int bell = 0; bell < 6; bell++) {
            check.due("CUT 0 of " + bell, x.line(bell, 0), 1);
            check.due("CUT 1 of " + bell, x.line(bell, 1), cut);
            check.due("CUT 2 of " + bell, x.line(bell, 2), NONE);
        }
        check.due("CUT of none", x.act(cut, 0), 1);
    }

    private static void bindAct() {
        House x = new House();
        int bind = x.hearer(14, 0, 5);
        check.due("BIND", x.act(bind, 0), 1);
        check.due("BIND place", x.line(5, 0), 0);
        check.due("BIND in it", x.act(bind, 0), 1);
        check.due("BIND once", x.line(5, 1), NONE);
        for (int i = 0; i < 11; i++) {
            x.bind(x.hearer(0, 0, 0), 5);
        }
        check.due("BIND in a full one", x.act(bind, 0), 1);
        int other = x.hearer(14, 1, 5);
        check.due("BIND: ROOM", x.act(other, 0), ROOM);
        check.due("BIND: told", x.count(8), 4);
    }

    private static void asMade() {
        House x = new House();
        int two = x.hearer(0, 2, 0);
        int first = x.hearer(8, two, 9);
        int both = x.hearer(11, 0, two);
        x.lend(two, 0);
        x.take(0);
        check.due("as made stays", x.act(first, 5), 2);
        check.due("as made, of both", x.act(both, 5), 3);
        check.due("as made tally 0", x.get(0), 5);
        check.due("as made tally 2", x.get(2), 10);
        int lent = x.hearer(8, two, 9);
        x.act(lent, 100);
        check.due("as lent when made", x.get(0), 105);
        check.due("own act, whoever had it", x.done(0), 2);
        check.due("own act, not had", x.done(two), 2);
    }

    private static void noneAsMade() {
        House x = new House();
        x.take(0);
        x.tally(5, 1);
        int first = x.hearer(8, 0, 1);
        int each = x.hearer(9, 0, 1);
        int when = x.hearer(10, 0, 5);
        int bothFirst = x.hearer(11, 0, 1);
        int bothSecond = x.hearer(11, first, 0);
        int tried = x.hearer(12, 0, 5);
        int add = x.hearer(0, 1, 0);
        x.lend(0, add);
        check.due("none: FIRST", x.act(first, 0), EMPTY);
        check.due("none: EACH", x.act(each, 0), EMPTY);
        check.due("none: IF", x.act(when, 0), EMPTY);
        check.due("none: BOTH a", x.act(bothFirst, 0), EMPTY);
        check.due("none: BOTH a, b is not done", x.done(1), 0);
        check.due("none: BOTH b", x.act(bothSecond, 0), EMPTY);
        check.due("none: TRY meets it", x.act(tried, 0), 1);
        check.due("none: TRY tally", x.get(5), 2);
        check.due("none: TRY counts", x.count(5), 1);
        check.due("none is no step", x.count(1), 7);
        check.due("none is told", x.count(8), 3);
    }

    private static void noneAsMadeButNotDone() {
        House x = new House();
        x.take(0);
        int never = x.hearer(8, 0, 0);
        int second = x.hearer(9, 0, 2);
        int when = x.hearer(10, 0, 5);
        check.due("none, not done: FIRST", x.act(never, 0), 1);
        check.due("none, not done: EACH", x.act(second, 0), 1);
        check.due("none, done: EACH", x.act(second, 0), EMPTY);
        check.due("none, not done: IF", x.act(when, 0), 1);
    }
}
