import java.util.ArrayList;
import java.util.List;

/** Calls that bring to light all that a house holds: two houses that answer them alike are alike. */
final class LaterCalls {
    private final House x;
    private final List<String> answers = new ArrayList<>();

    private LaterCalls(House x) {
        this.x = x;
    }

    /** At most some 320 calls; each with its answer. */
    static List<String> on(House x) {
        LaterCalls calls = new LaterCalls(x);
        int hearers = x.count(0);
        calls.tellLines();
        calls.tellQueue();
        calls.tellNumbers(hearers);
        calls.tellWays();
        calls.ringAndAct(hearers);
        calls.tellNumbers(hearers);
        calls.takeAll(hearers);
        return calls.answers;
    }

    private void answered(String call, long answer) {
        answers.add(call + " answered " + answer);
    }

    private void tellLines() {
        for (int bell = 0; bell < 6; bell++) {
            int hearer = 0;
            for (int place = 0; place <= 12 && hearer >= 0; place++) {
                hearer = x.line(bell, place);
                answered("line(" + bell + ", " + place + ")", hearer);
            }
        }
    }

    private void tellQueue() {
        int bell = 0;
        for (int i = 0; i <= 20 && bell >= 0; i++) {
            bell = x.queued(i);
            answered("queued(" + i + ")", bell);
        }
    }

    private void tellNumbers(int hearers) {
        for (int k = 0; k < 8; k++) {
            answered("get(" + k + ")", x.get(k));
        }
        for (int what = 0; what <= 9; what++) {
            answered("count(" + what + ")", x.count(what));
        }
        for (int hearer = 0; hearer < hearers; hearer++) {
            answered("done(" + hearer + ")", x.done(hearer));
        }
    }

    private void tellWays() {
        for (int bell = 0; bell < 6; bell++) {
            int way = x.way(bell, 0);
            answered("way(" + bell + ", 0)", way);
            x.way(bell, way);
        }
    }

    private void ringAndAct(int hearers) {
        answered("drain()", x.drain());
        for (int bell = 0; bell < 6; bell++) {
            answered("ring(" + bell + ", 3)", x.ring(bell, 3));
        }
        for (int hearer = 0; hearer < hearers; hearer++) {
            answered("act(" + hearer + ", 2)", x.act(hearer, 2));
        }
    }

    private void takeAll(int hearers) {
        for (int hearer = 0; hearer < hearers; hearer++) {
            answered("take(" + hearer + ")", x.take(hearer));
        }
    }
}
