import java.util.ArrayList;
import java.util.List;
import java.util.function.ToIntBiFunction;
import java.util.function.ToIntFunction;

/**
 * Every sentence of the document that says what is answered NONE: each number just outside, far outside, and outside
 * so that a wrap-around would bring it back. "What is refused changes nothing" is held with each of them: an object
 * that heard the call answers all else as one that did not.
 */
public final class RefusalTest extends Desk {
    private static final int[][] ROWS = {
        {CACHE, 0, LOAD}, {CACHE, 0, STORE}, {CACHE, 1, LOAD}, {CACHE, 1, STORE}, {CACHE, 1, EVICT},
        {CACHE, 2, 4}, {CACHE, 4, 4}, {CACHE, 1, 5}, {CACHE, 2, 5}, {CACHE, 4, 5}, {HOME, 0, 0}, {HOME, 0, 1}};
    private static final int[][] ACTS = {
        {0x12, 0x20}, {0x14, 0x20}, {0x70}, {0x80}, {0x13, 0x23},
        {0x60, 0x70, 0x11}, {0x60, 0x80, 0x11}, {0x51, 0x10}, {0x90}, {0x90}, {0x50, 0x31}, {0x42, 0x70, 0x50}};
    private static final int BUSY_STATES = 40;

    private static final List<Integer> UNTOUCHED = answers(busy());

    public static void main(String[] args) {
        busyIsBusy();
        terms();
        protocol();
        run();
        walk();
        finish();
    }

    /** Cached lines that change hands; a processor that waits to store has a RIGHT too early (BAD). */
    private static CohereBench busy() {
        CohereBench x = withProcessors(3);
        for (int i = 0; i < ROWS.length; i++) {
            put(x, ROWS[i][0], ROWS[i][1], ROWS[i][2], ACTS[i]);
        }
        x.net(1, 1);
        x.right(1, 2);
        x.right(4, 1);
        x.walk(BUSY_STATES);
        x.go(14);
        return x;
    }

    /** All that an object can be asked; what can be asked by a change alone comes last. */
    private static List<Integer> answers(CohereBench x) {
        List<Integer> l = new ArrayList<>();
        askRun(x, l);
        askWalk(x, l);
        for (int[] r : ROWS) {
            l.add(x.used(where(r[0], r[1], r[2], 0)));
        }
        for (int k = 0; k < 16; k++) {
            l.add(x.net(k, 0));
            l.add(x.right(k, 0));
        }
        // Without the rows it would not be seen whether an act was changed.
        l.add(x.walk(BUSY_STATES));
        askWalk(x, l);
        l.add(x.processors(2));
        for (int[] r : ROWS) {
            l.add(x.tear(where(r[0], r[1], r[2], 0)));
        }
        l.add(x.rows(CACHE));
        l.add(x.rows(HOME));
        return l;
    }

    private static void askRun(CohereBench x, List<Integer> l) {
        l.add(x.rows(CACHE));
        l.add(x.rows(HOME));
        l.add(x.number());
        l.add(x.steps());
        for (int what = 0; what < 5; what++) {
            for (int i = 0; i < 4; i++) {
                l.add(x.step(i, what));
                l.add(x.end(i, what));
                l.add(x.letter(i, what));
            }
            l.add(x.now(what));
        }
    }

    private static void askWalk(CohereBench x, List<Integer> l) {
        for (int what = 0; what < 8; what++) {
            l.add(x.walked(what));
        }
        for (int i = 0; i < 3; i++) {
            for (int what = 0; what < 3; what++) {
                l.add(x.bad(i, what));
            }
            l.add(x.found(0, i));
            l.add(x.found(1, i));
        }
        for (int n = 3; n < BUSY_STATES; n += 4) {
            l.add(x.far(n));
            l.add(x.way(n, 0));
            l.add(x.way(n, 1));
            l.add(x.way(n, 2));
        }
    }

    /** What the refusals below are asked of must be there: else they would be refused for want of it. */
    private static void busyIsBusy() {
        CohereBench x = busy();
        due("rows(0)", x.rows(0), 10);
        due("number()", x.number(), 14);
        due("now(0) is above 0", Math.min(1, x.now(0)), 1);
        due("steps() is above 1", Math.min(2, x.steps()), 2);
        due("walked(0)", x.walked(0), BUSY_STATES);
        due("walked(2) is above 0", Math.min(1, x.walked(2)), 1);
        due("walked(4) is above 0", Math.min(1, x.walked(4)), 1);
        due("far(14) is above 1", Math.min(2, x.far(14)), 2);
        due("calls of an object are at most 512", Math.max(512, UNTOUCHED.size() + 20), 512);
    }

    private static void refused(String call, ToIntFunction<CohereBench> ask) {
        CohereBench x = busy();
        due(call, ask.applyAsInt(x), CohereBench.NONE);
        List<Integer> later = answers(x);
        due(call + " changes nothing: answers that stay", same(later), UNTOUCHED.size());
    }

    private static int same(List<Integer> later) {
        int same = 0;
        for (int i = 0; i < UNTOUCHED.size(); i++) {
            same += later.get(i).equals(UNTOUCHED.get(i)) ? 1 : 0;
        }
        return same;
    }

    /** Numbers that tell no place of a row: the side, the event, below 0. */
    private static void noPlaces(String call, ToIntBiFunction<CohereBench, Integer> ask) {
        for (int[] r : ROWS) {
            int there = where(r[0], r[1], r[2], 1);
            for (int beyond : new int[] {1 << 15, 1 << 16, 1 << 30, -(1 << 15), -(1 << 16), Integer.MIN_VALUE}) {
                refusedPlace(call, there % where(HOME, 0, 0, 0) + beyond, ask);
            }
        }
        for (int where : new int[] {-1, -16, Integer.MIN_VALUE, Integer.MAX_VALUE, where(2, 0, 0, 0),
                where(1, 15, 63, 15) + 1, where(1, 15, 63, 15), ~where(0, 0, 0, 1), -where(0, 0, 1, 0)}) {
            refusedPlace(call, where, ask);
        }
        for (int state : new int[] {0, 1, 15}) {
            for (int event : new int[] {19, 20, 31, 32, 51, 63}) {
                refusedPlace(call, where(CACHE, state, event, 1), ask);
            }
            for (int event : new int[] {32, 33, 34, 63}) {
                refusedPlace(call, where(HOME, state, event, 1), ask);
            }
        }
    }

    private static void refusedPlace(String call, int where, ToIntBiFunction<CohereBench, Integer> ask) {
        refused(call + "(" + where + " ..)", x -> ask.applyAsInt(x, where));
    }

    private static void terms() {
        sentence(TERMS, "NONE (-1): a number is not as said, or there is nothing such.", () -> {
            due("NONE", CohereBench.NONE, -1);
            refused("a number is not as said", x -> x.end(0, 3));
            refused("both are not as said", x -> x.end(-1, -1));
            CohereBench x = new CohereBench();
            due("no such step", x.step(0, 0), -1);
            due("no such letter", x.letter(0, 0), -1);
            due("no such BAD", x.bad(0, 0), -1);
            due("no such STUCK state", x.found(0, 0), -1);
            due("no such state", x.far(0), -1);
            due("no such row", x.used(0), -1);
        });
        sentence(TERMS, "What is refused changes nothing.", () -> {
            CohereBench x = busy();
            int[] refusals = {x.processors(0), x.processors(5), x.net(16, 1), x.net(1, 2), x.right(16, 1),
                x.right(1, 3), x.row(where(CACHE, 0, LOAD, 9), 0, 0), x.row(where(CACHE, 0, 19, 0), 0, 0),
                x.row(where(HOME, 0, 32, 0), 0, 0), x.row(where(2, 0, 0, 0), 0, 0), x.row(-1, 0, 0),
                x.tear(where(CACHE, 0, 19, 0)), x.tear(where(HOME, 0, 32, 0)), x.tear(where(2, 0, 0, 0)), x.tear(-1),
                x.rows(2), x.step(0, 3), x.choose(-1), x.choose(x.steps()), x.end(4, 0), x.letter(0, 5), x.now(4),
                x.walk(0), x.walk(4001), x.walked(8), x.bad(0, 3), x.found(2, 0), x.far(BUSY_STATES),
                x.way(BUSY_STATES, 0), x.go(-1), x.go(BUSY_STATES), x.used(-1)};
            for (int i = 0; i < refusals.length; i++) {
                due("refusal " + i, refusals[i], -1);
            }
            due("answers that stay", same(answers(x)), UNTOUCHED.size());
        });
    }

    private static void protocol() {
        sentence(2, "P becomes n (1 .. 4): what it was. NONE.", () -> {
            for (int n : strays(1, 4)) {
                refused("processors(" + n + ")", x -> x.processors(n));
            }
        });
        sentence(3, "A KIND is ORDERED (0) or LOOSE (1) from now: what it was. NONE.", () -> {
            for (int kind : strays(0, 15)) {
                refused("net(" + kind + ", 0)", x -> x.net(kind, 0));
                refused("net(" + kind + ", 1)", x -> x.net(kind, 1));
            }
            for (int how : strays(0, 1)) {
                refused("net(0, " + how + ")", x -> x.net(0, how));
                refused("net(1, " + how + ")", x -> x.net(1, how));
                refused("net(16, " + how + ")", x -> x.net(16, how));
            }
        });
        sentence(4, "NONE: no such state, right.", () -> {
            for (int state : strays(0, 15)) {
                refused("right(" + state + ", 1)", x -> x.right(state, 1));
            }
            for (int right : strays(0, 2)) {
                refused("right(1, " + right + ")", x -> x.right(1, right));
                refused("right(15, " + right + ")", x -> x.right(15, right));
                refused("right(-1, " + right + ")", x -> x.right(-1, right));
            }
        });
        sentence(5, "NONE: no such side, state, event (caches 0 .. 18, home 0 .. 31), n, or that number is below 0.",
            () -> {
                noPlaces("row", (x, where) -> x.row(where, 0x19191919, 0x19191919));
                for (int[] r : ROWS) {
                    for (int n = 9; n < 16; n++) {
                        int where = where(r[0], r[1], r[2], n);
                        refused("row(" + where + " ..)", x -> x.row(where, 0x19191919, 0x19191919));
                    }
                }
                refused("row of 9 acts where none is", x -> x.row(where(HOME, 15, 31, 9), 0, 0));
            });
        sentence(6, "A row goes: 1; 0 if there was none. where as in row() (n does not count). NONE.",
            () -> noPlaces("tear", (x, where) -> x.tear(where)));
        sentence(7, "How many rows a side has. NONE.", () -> {
            for (int side : strays(0, 1)) {
                refused("rows(" + side + ")", x -> x.rows(side));
            }
        });
    }

    private static void run() {
        int steps = busy().steps();
        int count = busy().now(0);
        sentence(10, "NONE: no such step, what.", () -> {
            for (int i : strays(0, steps - 1)) {
                refused("step(" + i + ", 0)", x -> x.step(i, 0));
            }
            for (int what : strays(0, 2)) {
                refused("step(0, " + what + ")", x -> x.step(0, what));
                refused("step(last, " + what + ")", x -> x.step(steps - 1, what));
            }
        });
        sentence(11, "NONE: no such step.", () -> {
            for (int i : strays(0, steps - 1)) {
                refused("choose(" + i + ")", x -> x.choose(i));
            }
        });
        sentence(12, "(of the home its HOLDERS: the sum of 2^p of each p). NONE.", () -> {
            for (int c : strays(0, 3)) {
                refused("end(" + c + ", 0)", x -> x.end(c, 0));
            }
            for (int what : strays(0, 2)) {
                refused("end(0, " + what + ")", x -> x.end(0, what));
                refused("end(3, " + what + ")", x -> x.end(3, what));
            }
        });
        sentence(13, "NONE: no such letter, what.", () -> {
            for (int i : strays(0, count - 1)) {
                refused("letter(" + i + ", 0)", x -> x.letter(i, 0));
            }
            for (int what : strays(0, 4)) {
                refused("letter(0, " + what + ")", x -> x.letter(0, what));
            }
        });
        sentence(14, "2 whether it is QUIET, 3 STUCK (1, 0). NONE.", () -> {
            for (int what : strays(0, 3)) {
                refused("now(" + what + ")", x -> x.now(what));
            }
        });
    }

    private static void walk() {
        int bads = busy().walked(2);
        int stuck = busy().walked(3);
        int lost = busy().walked(4);
        sentence(15, "NONE: most is not as said.", () -> {
            for (int most : strays(1, 4000)) {
                refused("walk(" + most + ")", x -> x.walk(most));
            }
        });
        sentence(16, "6 whether SPENT, 7 QUIET states. NONE.", () -> {
            for (int what : strays(0, 7)) {
                refused("walked(" + what + ")", x -> x.walked(what));
            }
        });
        sentence(17, "NONE (an answer may be -1, too).", () -> {
            for (int i : strays(0, bads - 1)) {
                refused("bad(" + i + ", 0)", x -> x.bad(i, 0));
            }
            for (int what : strays(0, 2)) {
                refused("bad(0, " + what + ")", x -> x.bad(0, what));
            }
        });
        sentence(18, "in rising order: its number. NONE.", () -> {
            for (int i : strays(0, lost - 1)) {
                refused("found(1, " + i + ")", x -> x.found(1, i));
            }
            for (int i : strays(0, Math.max(0, stuck - 1))) {
                refused("found(0, " + i + ")", x -> x.found(0, i));
            }
            for (int how : strays(0, 1)) {
                refused("found(" + how + ", 0)", x -> x.found(how, 0));
            }
        });
        sentence(19, "NONE: no such state.", () -> {
            for (int state : strays(0, BUSY_STATES - 1)) {
                refused("far(" + state + ")", x -> x.far(state));
            }
        });
        sentence(20, "NONE: no such state, or step.", () -> {
            for (int state : strays(0, BUSY_STATES - 1)) {
                refused("way(" + state + ", 0)", x -> x.way(state, 0));
            }
            for (int n : new int[] {0, 1, 14, BUSY_STATES - 1}) {
                int far = busy().far(n);
                for (int k : strays(0, Math.max(0, far - 1))) {
                    refused("way(" + n + ", " + k + ")", x -> x.way(n, k));
                }
            }
            refused("way(0, 0)", x -> x.way(0, 0));
        });
        sentence(21, "NONE: no such state, or the protocol was changed since the walk.", () -> {
            for (int state : strays(0, BUSY_STATES - 1)) {
                refused("go(" + state + ")", x -> x.go(state));
            }
        });
        sentence(23, "NONE: no such side, state, event; or there is no such row now.", () -> {
            noPlaces("used", (x, where) -> x.used(where));
            refusedPlace("used", where(CACHE, 0, EVICT, 0), (x, where) -> x.used(where));
            refusedPlace("used", where(CACHE, 15, 18, 0), (x, where) -> x.used(where));
            refusedPlace("used", where(HOME, 0, 2, 0), (x, where) -> x.used(where));
            refusedPlace("used", where(HOME, 15, 31, 0), (x, where) -> x.used(where));
        });
    }
}
