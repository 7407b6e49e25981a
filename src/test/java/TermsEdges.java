/** The document's sentences on tallies, bells, lines, ways and hearers, and on the 512 calls. */
final class TermsEdges extends Edges {
    TermsEdges(Sentences sentences) {
        super(sentences);
    }

    @Override
    void all() {
        atMost512Calls();
        talliesNoughtToSeven();
        talliesNoughtAtFirst();
        addRunsOver();
        othersRunOver();
        bellsNoughtToFive();
        aLineEach();
        twelveAtMost();
        noneAtFirst();
        eachAtMostOnce();
        ways();
        hearersNoughtTo39();
        hearersAsTheyCome();
        ofTwoNumbers();
        ofATallyAsItWasThen();
        ofActsHadThen();
        thereMayHaveBeenNone();
        valueIsALong();
    }

    private void atMost512Calls() {
        sentence("What it is", "An object is used for at most 512 calls after it has been made");
        House x = new House();
        int all = making(x, 200);
        int steps = 0;
        while (x.callsLeft() > 1) {
            due("200 steps, with calls left: " + x.callsLeft(), x.act(all, 0), 200);
            steps += 200;
        }
        due("the 512th call", x.count(1), steps);
    }

    private void talliesNoughtToSeven() {
        sentence("What it is", "TALLIES 0 ..");
        sentence("Terms", "7 are longs");
        House x = new House();
        for (int k = 0; k <= 7; k++) {
            due("tally " + k, x.tally(k, GREATEST - k), 1);
        }
        for (int k = 0; k <= 7; k++) {
            due("get " + k, x.get(k), GREATEST - k);
        }
        due("the least", x.tally(0, LEAST) + x.tally(7, FAR), 2);
        due("get the least", x.get(0), LEAST);
        due("get what no int holds", x.get(7), FAR);
        due("the others stay", x.get(1), GREATEST - 1);
        refused("no tally", BAD, Edges::furnish,
                y -> y.tally(-1, 5), y -> y.tally(8, 5), y -> y.tally(MIN, 5), y -> y.tally(MAX, 5));
    }

    private void talliesNoughtAtFirst() {
        sentence("Terms", "(0 at first;");
        House x = new House();
        for (int k = 0; k <= 7; k++) {
            due("get " + k, x.get(k), 0);
        }
    }

    private void addRunsOver() {
        sentence("Terms", "all runs over).");
        House x = new House();
        int add = x.hearer(ADD, 1, 0);
        int addOne = x.hearer(ADD, 1, 1);
        int addLess = x.hearer(ADD, 1, -1);
        x.tally(1, GREATEST - 1);
        due("ADD up to the greatest", x.act(add, 1), 1);
        due("the greatest", x.get(1), GREATEST);
        due("ADD one more", x.act(add, 1), 1);
        due("over the greatest", x.get(1), LEAST);
        due("ADD one less", x.act(add, -1), 1);
        due("under the least", x.get(1), GREATEST);
        x.tally(1, 0);
        x.act(addOne, GREATEST);
        due("v and b run over", x.get(1), LEAST);
        x.tally(1, 1);
        x.act(addLess, GREATEST);
        due("all three together do not", x.get(1), GREATEST);
        x.tally(1, 0);
        x.act(x.hearer(ADD, 1, MAX), MAX);
        due("ints do not run over", x.get(1), 2L * MAX);
        x.tally(1, 0);
        x.act(x.hearer(ADD, 1, MIN), MIN);
        due("ints do not run under", x.get(1), 2L * MIN);
    }

    private void othersRunOver() {
        sentence("Terms", "all runs over).");
        House x = new House();
        x.tally(2, GREATEST);
        x.act(x.hearer(BACK, 2, 1), 0);
        due("BACK over", x.get(2), LEAST);
        x.act(x.hearer(BACK, 2, -1), 0);
        due("BACK under", x.get(2), GREATEST);
        x.act(x.hearer(POINT, 0, 1), 2);
        due("POINT over", x.get(2), LEAST);
        x.act(x.hearer(POINT, 0, -1), 2);
        due("POINT under", x.get(2), GREATEST);
        x.act(x.hearer(TRY, noAct(x), 2), 0);
        due("one more by TRY", x.get(2), LEAST);
        int share = x.hearer(SHARE, 2, 0);
        due("the least by -1", x.act(share, -1), 1);
        due("SHARE over", x.get(2), LEAST);
        x.bind(0, 3);
        x.act(x.hearer(RING, 3, 1), GREATEST);
        due("RING with v + b over", x.get(0), LEAST);
        x.tally(0, 0);
        x.act(x.hearer(LATER, 3, -1), LEAST);
        due("LATER with v + b under", x.get(0), GREATEST);
    }

    private void bellsNoughtToFive() {
        sentence("Terms", "BELLS 0 .. 5");
        House x = new House();
        for (int bell = 0; bell <= 5; bell++) {
            due("bind at " + bell, x.bind(0, bell), 0);
            due("ring " + bell, x.ring(bell, 1), 1);
            due("line " + bell, x.line(bell, 0), 0);
            due("way of " + bell, x.way(bell, SOFT), HARD);
            due("leave " + bell, x.leave(0, bell), 0);
            due("RING of " + bell, x.hearer(RING, bell, 0), 2 + 3 * bell);
            due("LATER of " + bell, x.hearer(LATER, bell, 0), 3 + 3 * bell);
            due("BIND of " + bell, x.hearer(BIND, 0, bell), 4 + 3 * bell);
        }
        due("all were rung", x.get(0), 6);
        for (int wrong : new int[] {-1, 6, MIN, MAX}) {
            refused("no bell " + wrong, BAD, Edges::furnish,
                    y -> y.bind(0, wrong), y -> y.ring(wrong, 1), y -> y.line(wrong, 0), y -> y.way(wrong, SOFT),
                    y -> y.leave(0, wrong), y -> y.hearer(RING, wrong, 0), y -> y.hearer(LATER, wrong, 0),
                    y -> y.hearer(BIND, 0, wrong));
        }
    }

    private void aLineEach() {
        sentence("Terms", "have a LINE each of HEARERS one behind the other");
        House x = new House();
        int more = x.hearer(ADD, 1, 0);
        for (int bell = 0; bell <= 5; bell++) {
            x.bind(more, bell);
            due("the second in the line of " + bell, x.bind(0, bell), 1);
            due("the third in the line of " + bell, x.bind(1, bell), 2);
        }
        due("the first leaves one line", x.leave(more, 2), 0);
        for (int bell = 0; bell <= 5; bell++) {
            int gone = bell == 2 ? 1 : 0;
            due("the first of " + bell, x.line(bell, 0), gone == 1 ? 0 : more);
            due("the one behind it of " + bell, x.line(bell, 1 - gone), 0);
            due("the last of " + bell, x.line(bell, 2 - gone), 1);
            due("nobody behind the last of " + bell, x.line(bell, 3 - gone), NONE);
        }
    }

    private void twelveAtMost() {
        sentence("Terms", "12 at most");
        House x = new House();
        for (int place = 0; place < 12; place++) {
            due("hearer " + (place + 1) + " in line", x.bind(x.hearer(ADD, 0, 0), 4), place);
        }
        due("a thirteenth", x.bind(0, 4), FULL);
        due("a thirteenth in another line", x.bind(0, 5), 0);
        due("the twelfth is there", x.line(4, 11), 13);
        due("no thirteenth is there", x.line(4, 12), NONE);
        due("all twelve are told", x.ring(4, 1), 12);
        x.leave(7, 4);
        due("again a twelfth", x.bind(0, 4), 11);
        due("again a thirteenth", x.bind(7, 4), FULL);
        refused("a thirteenth", FULL, y -> twelveInLine(y, 4), y -> y.bind(0, 4), y -> y.bind(1, 4));
    }

    private void noneAtFirst() {
        sentence("Terms", "(none at first)");
        House x = new House();
        for (int bell = 0; bell <= 5; bell++) {
            due("line of " + bell, x.line(bell, 0), NONE);
            due("nobody is told by " + bell, x.ring(bell, 1), 0);
        }
    }

    private void eachAtMostOnce() {
        sentence("Terms", "each at most once");
        House x = new House();
        int binding = x.hearer(BIND, 0, 3);
        x.bind(0, 3);
        x.bind(1, 3);
        due("bound again", x.bind(0, 3), NONE);
        due("the last bound again", x.bind(1, 3), NONE);
        due("BIND again", x.act(binding, 0), 1);
        due("its place is kept", x.line(3, 0), 0);
        due("the other's place is kept", x.line(3, 1), 1);
        due("nobody came", x.line(3, 2), NONE);
        due("it leaves", x.leave(0, 3), 0);
        due("it is nowhere else in the line", x.leave(0, 3), NONE);
        due("then it may come again", x.bind(0, 3), 1);
        refused("it is in it", NONE, y -> {
            furnish(y);
            twelveInLine(y, 4);
        }, y -> y.bind(2, 0), y -> y.bind(5, 0), y -> y.bind(13, 4), y -> y.bind(24, 4));
    }

    private void ways() {
        sentence("Terms", "and a WAY: 0 HARD (at first), 1 SOFT.");
        House x = new House();
        int share = x.hearer(SHARE, 1, 0);
        for (int bell = 0; bell <= 5; bell++) {
            bindAll(x, bell, share, 0);
            due("at first " + bell + " is ended", x.ring(bell, 0), ZERO);
            due("at first " + bell + " is HARD", x.way(bell, 1), 0);
            due("with 1 " + bell + " goes on", x.ring(bell, 0), 2);
            due("with 1 " + bell + " is SOFT", x.way(bell, 0), 1);
            due("with 0 " + bell + " is ended", x.ring(bell, 0), ZERO);
        }
        refused("no way", BAD, Edges::furnish, y -> y.way(0, -1), y -> y.way(0, 2), y -> y.way(1, -1),
                y -> y.way(1, 2), y -> y.way(1, MIN), y -> y.way(1, MAX));
    }

    private void hearersNoughtTo39() {
        sentence("Terms", "HEARERS 0 .. 39, as they come,");
        House x = new House();
        for (int hearer = 2; hearer <= 39; hearer++) {
            due("hearer " + hearer, x.hearer(ADD, 1, hearer), hearer);
        }
        due("a forty-first", x.hearer(ADD, 1, 1000), FULL);
        due("39 has an act", x.act(39, 0), 1);
        due("39 has its own act", x.get(1), 39);
        due("39 comes into a line", x.bind(39, 0), 0);
        due("39 leaves it", x.leave(39, 0), 0);
        due("39 is counted", x.done(39), 1);
        due("39 lends", x.lend(0, 39), 1);
        due("39 is lent to", x.lend(39, 1), 1);
        due("39 is taken from", x.take(39), 1);
        refused("a forty-first", FULL, TermsEdges::fortyHearers,
                y -> y.hearer(ADD, 1, 1000), y -> y.hearer(BACK, 2, 0), y -> y.hearer(BOTH, 39, 0));
        refused("no hearer 40", BAD, TermsEdges::fortyHearers,
                y -> y.bind(40, 0), y -> y.leave(40, 0), y -> y.take(40), y -> y.lend(40, 0), y -> y.lend(0, 40),
                y -> y.act(40, 0), y -> y.done(40), y -> y.hearer(CUT, 40, 0));
    }

    private static void fortyHearers(House x) {
        for (int hearer = 2; hearer < 40; hearer++) {
            x.hearer(hearer % 5, 1, hearer);
        }
        bindAll(x, 0, 2, 39, 20);
    }

    private void hearersAsTheyCome() {
        sentence("Terms", "HEARERS 0 .. 39, as they come,");
        refused("hearers that have not come yet", BAD, Edges::furnish,
                y -> y.bind(13, 0), y -> y.leave(13, 0), y -> y.take(13), y -> y.lend(13, 0), y -> y.lend(0, 13),
                y -> y.act(13, 0), y -> y.done(13), y -> y.hearer(FIRST, 13, 1), y -> y.hearer(BOTH, 0, 13));
        House x = new House();
        due("2 has not come", x.act(2, 0), BAD);
        due("2 comes", x.hearer(ADD, 0, 0), 2);
        due("2 has come", x.act(2, 0), 1);
        due("3 has not", x.act(3, 0), BAD);
    }

    private void ofTwoNumbers() {
        sentence("Terms", "have an ACT each, made as the HEARER is: of two numbers a, b,");
        House x = new House();
        int most = x.hearer(ADD, 7, MAX);
        int least = x.hearer(ADD, 0, MIN);
        int other = x.hearer(ADD, 7, -1);
        x.act(most, 0);
        due("a 7, b the greatest", x.get(7), MAX);
        x.act(least, 0);
        due("a 0, b the least", x.get(0), MIN);
        x.act(other, 0);
        due("a 7, b -1", x.get(7), MAX - 1L);
        due("each its own", x.done(most) + x.done(least) + x.done(other), 3);
    }

    private void ofATallyAsItWasThen() {
        sentence("Terms", "of a TALLY as it was then,");
        House x = new House();
        int atFirst = x.hearer(BACK, 2, 0);
        x.tally(2, 50);
        int then = x.hearer(BACK, 2, 0);
        x.tally(2, 60);
        int after = x.hearer(BACK, 2, 0);
        x.act(then, 0);
        due("as it was then", x.get(2), 50);
        x.act(after, 0);
        due("as it was after", x.get(2), 60);
        x.act(atFirst, 0);
        due("as it was at first", x.get(2), 0);
    }

    private void ofActsHadThen() {
        sentence("Terms", "of ACTS that other HEARERS had then (AS MADE: that stays;");
        for (int sort = FIRST; sort <= TRY; sort++) {
            House x = new House();
            x.tally(7, 1);
            int had = x.hearer(ADD, 1, 0);
            int other = x.hearer(ADD, 2, 0);
            int b = sort == BOTH ? 0 : sort == EACH ? 1 : 7;
            int made = x.hearer(sort, had, b);
            x.lend(had, other);
            int madeOfLent = x.hearer(sort, had, b);
            int steps = sort == BOTH ? 3 : 2;
            due("sort " + sort, x.act(made, 5), steps);
            due("sort " + sort + ", the act had then", x.get(1), 5);
            due("sort " + sort + ", not the one it has now", x.get(2), 0);
            due("sort " + sort + ", of a lent one", x.act(madeOfLent, 5), steps);
            due("sort " + sort + ", the lent act", x.get(2), 5);
            x.take(had);
            x.take(other);
            due("sort " + sort + ", taken away later", x.act(made, 5), steps);
            due("sort " + sort + ", taken from the lender", x.act(madeOfLent, 5), steps);
            due("sort " + sort + ", that stays", x.get(1) + x.get(2), 20);
        }
    }

    private void thereMayHaveBeenNone() {
        sentence("Terms", "there may have been none).");
        House x = new House();
        int none = noAct(x);
        for (int sort = FIRST; sort <= TRY; sort++) {
            due("sort " + sort + " of none", x.hearer(sort, none, 1), sort - FIRST + 3);
        }
        due("BOTH of one and none", x.hearer(BOTH, 0, none), 8);
        due("BOTH of none and none", x.hearer(BOTH, none, none), 9);
        x.lend(none, 0);
        due("it stays none", x.act(3, 0), EMPTY);
        due("made after there is one", x.act(x.hearer(FIRST, none, 1), 0), 2);
    }

    private void valueIsALong() {
        sentence("Terms", "An ACT is done with a VALUE v, a long.");
        House x = new House();
        x.tally(7, 1);
        x.bind(0, 1);
        int ring = x.hearer(RING, 1, 0);
        int later = x.hearer(LATER, 1, 0);
        int[] between = {0, x.hearer(FIRST, 0, 9), x.hearer(EACH, 0, 1), x.hearer(IF, 0, 7),
            x.hearer(BOTH, 0, 1), x.hearer(BOTH, ring, 1), x.hearer(TRY, 0, 7), ring, later};
        for (long v : new long[] {FAR, GREATEST, LEAST, -FAR - 1}) {
            for (int hearer : between) {
                x.tally(0, 0);
                x.act(hearer, v);
                due("hearer " + hearer + " with " + v, x.get(0), v);
            }
            x.tally(0, 0);
            x.ring(1, v);
            due("rung with " + v, x.get(0), v);
        }
    }
}
