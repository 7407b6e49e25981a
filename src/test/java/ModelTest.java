import java.util.Random;

/** Drawn runs of up to 512 calls: every answer, and in every other run at last the whole state, against ModelHouse. */
public final class ModelTest {
    private static final int RUNS = 6000, CALLS_TO_TELL = 5, CALLS_OF_WHOLE_STATE = 164;
    private static final long[] VALUES = {0, 0, 1, 1, 2, 3, 5, 7, 8, -1, -3, 1000000, 4294967296L,
        Long.MAX_VALUE, Long.MIN_VALUE};
    private static final int[] WILD = {-1, -2, 6, 8, 10, 12, 15, 20, 40, Integer.MIN_VALUE, Integer.MAX_VALUE};
    private static final Check check = new Check();
    private static final int[] answers = new int[16];
    private static int ofAllSteps = 0, spentAheadOfQueue = 0, toldFurtherBehind = 0;

    private final Random random;
    private final House house = new House();
    private final ModelHouse model = new ModelHouse();
    private final boolean callingMuch;
    private final boolean doubling;
    private final boolean moving;
    private final String name;

    private ModelTest(int seed) {
        random = new Random(seed);
        callingMuch = seed % 3 == 0;
        doubling = seed % 5 == 1;
        moving = seed % 5 == 2;
        name = "run " + seed;
    }

    public static void main(String[] args) {
        for (int seed = 0; seed < RUNS; seed++) {
            ModelTest run = new ModelTest(seed);
            boolean whole = seed % 2 == 0;
            if (run.doubling) {
                run.makeTreesOf200();
            }
            int kept = CALLS_TO_TELL + (whole ? CALLS_OF_WHOLE_STATE : 0);
            while (run.house.callsLeft() >= kept) {
                run.oneCall(House.MOST_CALLS - run.house.callsLeft());
            }
            if (whole) {
                run.wholeState();
            }
            spentAheadOfQueue += run.model.spentAheadOfQueue;
            toldFurtherBehind += run.model.toldFurtherBehind;
        }
        enoughWasDrawn();
        check.end();
    }

    /** What is seldom must have come often enough for these runs to hold it. */
    private static void enoughWasDrawn() {
        for (int failure = 1; failure <= 6; failure++) {
            check.holds("failure " + failure + " came up to a call", answers[failure] > 100);
        }
        check.holds("some were FULL", answers[0] > 100);
        check.holds("some made all 200 steps and ended well: " + ofAllSteps, ofAllSteps > 100);
        check.holds("some were SPENT ahead of THE QUEUE: " + spentAheadOfQueue, spentAheadOfQueue > 100);
        check.holds("some left, came again further behind and were told: " + toldFurtherBehind,
                toldFurtherBehind > 100);
    }

    private int below(int many) {
        return random.nextInt(60) == 0 ? WILD[random.nextInt(WILD.length)] : random.nextInt(many);
    }

    private long value() {
        return random.nextInt(3) == 0 ? VALUES[random.nextInt(VALUES.length)] : random.nextInt(8);
    }

    private int aHearer() {
        return below(model.count(0));
    }

    private void due(int call, String what, long got, long want) {
        check.due(name + ", call " + call + ": " + what, got, want);
    }

    private void oneCall(int call) {
        int much = callingMuch ? 30 : 16;
        int drawn = random.nextInt(much);
        if (drawn >= 16 || call > 80 && drawn >= 12) {
            callThatRings(call);
        } else if (call < 60 && drawn < 9 || drawn < 2) {
            makeHearers(call);
        } else {
            changeOrTell(call, drawn);
        }
    }

    private void callThatRings(int call) {
        long v = value();
        int which = random.nextInt(10);
        int got;
        if (which == 0) {
            got = house.drain();
            due(call, "drain", got, model.drain());
        } else if (which < 5) {
            int hearer = aHearer();
            got = house.act(hearer, v);
            due(call, "act " + hearer + " " + v, got, model.act(hearer, v));
        } else {
            int bell = below(6);
            got = house.ring(bell, v);
            due(call, "ring " + bell + " " + v, got, model.ring(bell, v));
        }
        if (got <= -11) {
            answers[-10 - got]++;
        }
        if (got == BellHouse.FULL) {
            answers[0]++;
        }
        if (got == 200) {
            ofAllSteps++;
        }
    }

    private void makeHearers(int call) {
        if (moving && random.nextInt(3) == 0 && house.callsLeft() >= 10) {
            makeMover(call, aHearer(), random.nextInt(6));
        } else {
            makeAnyHearer(call);
        }
    }

    /** Trees of 1, 3, 7, .. 127 STEPS; those of 127, 63, 7 and 3 come into a line, which makes 200. */
    private void makeTreesOf200() {
        int leaf = hearer(0, random.nextInt(3), random.nextInt(8), random.nextInt(9) - 2);
        for (int tree = leaf; tree < leaf + 6; tree++) {
            hearer(0, 11, tree, tree);
        }
        int bell = random.nextInt(6);
        int[] inLine = {leaf + 6, leaf + 5, leaf + 2, leaf + 1};
        int turned = random.nextInt(4);
        for (int i = 0; i < 4; i++) {
            bind(0, inLine[(i + turned) % 4], bell);
        }
    }

    /** One that takes another out of a line and puts it behind, ahead of that other in the line. */
    private void makeMover(int call, int moved, int bell) {
        int cut = hearer(call, 13, moved, 0);
        int bind = hearer(call, 14, moved, bell);
        int mover = hearer(call, 11, cut, bind);
        due(call, "leave " + moved + " " + bell, house.leave(moved, bell), model.leave(moved, bell));
        bind(call, mover, bell);
        bind(call, moved, bell);
    }

    private void bind(int call, int hearer, int bell) {
        due(call, "bind " + hearer + " " + bell, house.bind(hearer, bell), model.bind(hearer, bell));
    }

    private int hearer(int call, int sort, int a, int b) {
        int made = model.hearer(sort, a, b);
        due(call, "hearer " + sort + " " + a + " " + b, house.hearer(sort, a, b), made);
        return made;
    }

    private void makeAnyHearer(int call) {
        int sort = below(15);
        int a = sort <= 3 ? below(8) : sort <= 6 ? below(6) : aHearer();
        int b = sort == 10 || sort == 12 ? below(8) : sort == 14 ? below(6) : sort == 11 ? aHearer()
                : random.nextInt(9) - 2;
        if (random.nextInt(40) == 0) {
            b = WILD[random.nextInt(WILD.length)];
        }
        hearer(call, sort, a, b);
    }

    private void changeOrTell(int call, int drawn) {
        int hearer = aHearer();
        int bell = below(6);
        int k = below(8);
        long v = value();
        switch (drawn) {
            case 2: case 3: case 4: case 5:
                bind(call, hearer, bell);
                break;
            case 6:
                due(call, "leave " + hearer + " " + bell, house.leave(hearer, bell), model.leave(hearer, bell));
                break;
            case 7:
                if (random.nextInt(3) == 0) {
                    due(call, "take " + hearer, house.take(hearer), model.take(hearer));
                }
                break;
            case 8:
                int from = aHearer();
                due(call, "lend " + hearer + " " + from, house.lend(hearer, from), model.lend(hearer, from));
                break;
            case 9:
                due(call, "tally " + k + " " + v, house.tally(k, v), model.tally(k, v));
                break;
            case 10:
                int way = below(2);
                due(call, "way " + bell + " " + way, house.way(bell, way), model.way(bell, way));
                break;
            default:
                tell(call, hearer, bell, k);
        }
    }

    private void tell(int call, int hearer, int bell, int k) {
        int place = below(13);
        due(call, "get " + k, house.get(k), model.get(k));
        due(call, "line " + bell + " " + place, house.line(bell, place), model.line(bell, place));
        due(call, "queued " + place, house.queued(place), model.queued(place));
        due(call, "count " + place, house.count(place), model.count(place));
        due(call, "done " + hearer, house.done(hearer), model.done(hearer));
    }

    private void wholeState() {
        for (int i = -1; i <= 10; i++) {
            due(House.MOST_CALLS, "count " + i, house.count(i), model.count(i));
        }
        for (int k = -1; k <= 8; k++) {
            due(House.MOST_CALLS, "get " + k, house.get(k), model.get(k));
        }
        for (int hearer = -1; hearer <= model.count(0); hearer++) {
            due(House.MOST_CALLS, "done " + hearer, house.done(hearer), model.done(hearer));
        }
        for (int i = -1; i <= model.count(7); i++) {
            due(House.MOST_CALLS, "queued " + i, house.queued(i), model.queued(i));
        }
        for (int bell = 0; bell < 6; bell++) {
            int hearer = 0;
            for (int place = 0; hearer >= 0; place++) {
                hearer = model.line(bell, place);
                due(House.MOST_CALLS, "line " + bell + " " + place, house.line(bell, place), hearer);
            }
        }
    }
}
