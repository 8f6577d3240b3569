/** The boundary cases that the document's sentences on the walk name: promises 15 to 23, and their terms. */
public final class WalkEdgeTest extends Desk {
    private static final int NO_EXIT = -1;
    private static final int MOST_LETTERS = 8;
    /**
     * By LOAD, STORE, EVICT the cache goes to these states, and sends a letter of KIND 0, 1, 2, which the home keeps
     * waiting. So a state of all is a word of at most 8 letters, and their number can be counted beforehand:
     * 1 + 3280 (three exits, 7 letters) + 255 (two exits) + 464 (1 + 127 + 127 + 209, and so on) = 4000.
     */
    private static final int[][] TREE = {
        {1, 2, 3}, {1, 1, 1}, {2, 2, NO_EXIT}, {2, 2, 4}, {2, 2, 5}, {2, 2, 6}, {2, 8, 7},
        {8, NO_EXIT, NO_EXIT}, {NO_EXIT, NO_EXIT, NO_EXIT}};

    public static void main(String[] args) {
        states();
        bads();
        lost();
        walks();
        askedForStates();
        ways();
        goes();
        used();
        finish();
    }

    private static CohereBench tree(boolean oneMore) {
        CohereBench x = withProcessors(1);
        for (int s = 0; s < TREE.length; s++) {
            for (int event = 0; event < 3; event++) {
                if (TREE[s][event] != NO_EXIT) {
                    putExit(x, s, event, TREE[s][event]);
                }
            }
        }
        if (oneMore) {
            putExit(x, 7, EVICT, 8);
        }
        for (int k = 0; k < 3; k++) {
            put(x, HOME, 0, 2 * k, 0x90);
        }
        return x;
    }

    private static void putExit(CohereBench x, int state, int event, int to) {
        put(x, CACHE, state, event, 0x80, 0x60, 0x10 + to, 0x20 + event);
    }

    /** Over all words from a state on: 0 how many there are, 1 their steps, 2 those at eight letters, 3 words without. */
    private static int count(int state, int letters, int what) {
        int exits = 0;
        int sum = 0;
        for (int to : TREE[state]) {
            if (to != NO_EXIT) {
                exits++;
                sum += letters < MOST_LETTERS ? count(to, letters + 1, what) : 0;
            }
        }
        switch (what) {
            case 0: return sum + 1;
            case 1: return sum + exits;
            case 2: return sum + (letters < MOST_LETTERS ? 0 : exits);
            default: return sum + (exits == 0 ? 1 : 0);
        }
    }

    /** Each of p caches counts to last by EVICTS. */
    private static CohereBench counters(int p, int last) {
        CohereBench x = withProcessors(p);
        for (int s = 0; s < last; s++) {
            put(x, CACHE, s, EVICT, 0x11 + s);
        }
        return x;
    }

    private static void states() {
        sentence(TERMS, "THE WALK, of at most so many states of all: they are numbered from 0 on as they are found: "
            + "THE FIRST, then, from each one on, the least number first, by all STEPS in their order, each new one;",
            () -> {
                CohereBench x = counters(2, 2);
                due("walk(4000)", x.walk(4000), 9);
                int[][] pairs = {{0, 0}, {1, 0}, {0, 1}, {2, 0}, {1, 1}, {0, 2}, {2, 1}, {1, 2}, {2, 2}};
                for (int n = 0; n < 9; n++) {
                    x.go(n);
                    due("cache 0 in state " + n, x.end(0, 0), pairs[n][0]);
                    due("cache 1 in state " + n, x.end(1, 0), pairs[n][1]);
                }
            });
        sentence(TERMS, "it is SPENT if one more would be found (that one is no state of the walk; it goes on as long "
            + "as there are states to go from, none is found any more).", () -> {
            CohereBench x = counters(2, 2);
            int[] steps = {2, 2, 2, 1, 2, 1, 1, 1, 0};
            int tried = 0;
            for (int most = 1; most <= 10; most++) {
                tried += most <= 9 ? steps[most - 1] : 0;
                int has = Math.min(9, most);
                due("walk(" + most + ")", x.walk(most), most < 9 ? -most - 1 : 9);
                due("states", x.walked(0), has);
                due("tried", x.walked(1), tried);
                due("SPENT", x.walked(6), most < 9 ? 1 : 0);
                due("QUIET", x.walked(7), has);
                due("the last one", x.far(has - 1) < 0 ? 0 : 1, 1);
                due("one more", x.far(has), -1);
            }
        });
        sentence(15, "THE WALK of at most so many (1 .. 4000) states: how many it has; less these and 1 more, "
            + "if it is SPENT.", () -> {
            due("walk(1) without steps", new CohereBench().walk(1), 1);
            due("walk(4000) without steps", new CohereBench().walk(4000), 1);
            due("walk(1) with one", counters(1, 1).walk(1), -2);
            due("walk(2)", counters(1, 1).walk(2), 2);
            fullWalk();
        });
    }

    private static void fullWalk() {
        due("the words", count(0, 0, 0), 4000);
        CohereBench x = tree(false);
        due("walk(4000) of 4000", x.walk(4000), 4000);
        due("states", x.walked(0), 4000);
        due("tried", x.walked(1), count(0, 0, 1));
        due("BADS", x.walked(2), count(0, 0, 2));
        due("STUCK", x.walked(3), count(0, 0, 3));
        due("LOST", x.walked(4), 3999);
        due("farthest", x.walked(5), 8);
        due("SPENT", x.walked(6), 0);
        due("QUIET", x.walked(7), 1);
        due("found(1, 3998)", x.found(1, 3998), 3999);
        due("found(1, 3999)", x.found(1, 3999), -1);
        due("far(3999)", x.far(3999), 8);
        due("far(4000)", x.far(4000), -1);
        for (int k = 0; k < 8; k++) {
            choose(x, x.way(3999, k));
        }
        due("number()", x.number(), 3999);
        due("go(4000)", x.go(4000), -1);
        int last = x.go(3999);
        due("walk(3999) of 4000", x.walk(3999), -4000);
        due("tried, but not from the last one", x.walked(1), count(0, 0, 1) - last);
        due("number() of the one that is too many", x.number(), -1);
        x = tree(true);
        due("walk(4000) of 4001", x.walk(4000), -4001);
        due("states", x.walked(0), 4000);
        due("SPENT", x.walked(6), 1);
    }

    private static void bads() {
        sentence(TERMS, "BADS, in the order in which they come up: a state when it is found, a STEP when it is tried;",
            () -> {
                CohereBench x = withProcessors(1);
                x.right(0, 1);
                x.right(2, 2);
                put(x, CACHE, 0, LOAD, 0x12);
                put(x, CACHE, 0, STORE, 0x70);
                put(x, CACHE, 0, EVICT, 0x12);
                put(x, CACHE, 2, EVICT, 0x12, 0x70);
                due("walk(9)", x.walk(9), 3);
                dueBads(x, new int[][] {{5, 0, -1}, {5, 1, -1}, {2, 0, 1}, {5, 2, -1}, {2, 2, 0}});
            });
        sentence(TERMS, "the first 200 are kept.", () -> {
            // Each of the 256 states is BAD; a walk of n states has n BADS.
            for (int n = 199; n <= 201; n++) {
                CohereBench x = counters(4, 3);
                for (int s = 0; s < 4; s++) {
                    x.right(s, 1);
                }
                due("walk(" + n + ")", x.walk(n), -n - 1);
                due("walked(2)", x.walked(2), n);
                due("bad(198, 1)", x.bad(198, 1), 198);
                due("bad(199, 1)", x.bad(199, 1), n == 199 ? -1 : 199);
                due("bad(200, 1)", x.bad(200, 1), -1);
                due("bad(200, 0)", x.bad(200, 0), -1);
            }
        });
        sentence(17, "BAD i (of the first 200): 0 how (1 .. 5), 1 the state of the walk (of a STEP: from which it was "
            + "tried), 2 the STEP's number, -1 if the state itself is.", () -> {
            CohereBench x = withProcessors(2);
            x.right(1, 2);
            put(x, CACHE, 0, LOAD, 0x70);
            put(x, CACHE, 0, STORE, 0x80, 0x21, 0x21, 0x21, 0x21, 0x21, 0x21, 0x11);
            due("walk(9)", x.walk(9), 3);
            dueBads(x, new int[][] {{2, 0, 0}, {2, 0, 2},
                {2, 1, 0}, {3, 1, 1}, {1, 1, 2}, {2, 2, 0}, {3, 2, 1}, {1, 2, 2}});
            put(x, CACHE, 0, STORE, 0x80, 0x11);
            due("walk(9)", x.walk(9), 5);
            dueBads(x, new int[][] {{2, 0, 0}, {2, 0, 2}, {2, 1, 0}, {4, 3, -1}, {2, 2, 0}, {4, 4, -1}});
            due("a walk without BADS", counters(2, 2).bad(0, 0), -1);
        });
    }

    private static void dueBads(CohereBench x, int[][] want) {
        due("walked(2)", x.walked(2), want.length);
        for (int i = 0; i < want.length; i++) {
            for (int what = 0; what < 3; what++) {
                due("bad(" + i + ", " + what + ")", x.bad(i, what), want[i][what]);
            }
        }
        due("one more", x.bad(want.length, 0), -1);
    }

    /** EVICT sends eight letters, which come one by one: the ninth step is back at THE FIRST. */
    private static CohereBench ring() {
        CohereBench x = withProcessors(1);
        put(x, CACHE, 0, EVICT, 0x21, 0x21, 0x21, 0x21, 0x21, 0x21, 0x21, 0x21);
        put(x, HOME, 0, 2);
        return x;
    }

    private static void lost() {
        sentence(TERMS, "LOST: states of the walk from which no steps within it lead to a QUIET one (that one itself "
            + "counting as led to).", () -> {
            CohereBench x = ring();
            due("walk(9)", x.walk(9), 9);
            due("LOST", x.walked(4), 0);
            due("QUIET", x.walked(7), 1);
            for (int most = 8; most >= 1; most--) {
                due("walk(" + most + ")", x.walk(most), -most - 1);
                due("LOST in " + most, x.walked(4), most - 1);
                due("the last of them", x.found(1, most - 2), most == 1 ? -1 : most - 1);
                due("one more", x.found(1, most - 1), -1);
            }
            due("QUIET and without steps", new CohereBench().walk(1), 1);
            x = withProcessors(1);
            put(x, CACHE, 0, EVICT, 0x11);
            x.walk(9);
            due("LOST", x.walked(4), 0);
            // A letter that goes to and fro; a BAD step leads nowhere.
            x = withProcessors(1);
            put(x, CACHE, 0, EVICT, 0x41, 0x11);
            put(x, CACHE, 1, kind(1), 0x41);
            put(x, CACHE, 0, STORE, 0x22, 0x11);
            due("walk(9)", x.walk(9), 3);
            due("STUCK", x.walked(3), 0);
            due("LOST", x.walked(4), 2);
            manyToOne();
            lostSinceThen();
        });
    }

    /** Three states lead to the same QUIET one, and to it alone. */
    private static void manyToOne() {
        CohereBench x = withProcessors(1);
        for (int event = 0; event < 3; event++) {
            put(x, CACHE, 0, event, 0x80, 0x60, 0x11, 0x21 + event);
            put(x, HOME, 0, 2 + 2 * event);
        }
        due("walk(9)", x.walk(9), 5);
        due("LOST", x.walked(4), 0);
        for (int event = 0; event < 3; event++) {
            put(x, HOME, 0, 2 + 2 * event, 0x90);
            x.walk(9);
            due("LOST, if " + (event + 1) + " wait", x.walked(4), event + 1);
        }
    }

    /** What led to a QUIET state in an earlier walk does not count in a later one. */
    private static void lostSinceThen() {
        CohereBench x = withProcessors(1);
        put(x, CACHE, 0, EVICT, 0x21);
        put(x, HOME, 0, 2);
        due("walk(99)", x.walk(99), 9);
        due("LOST", x.walked(4), 0);
        put(x, HOME, 0, 2, 0x90);
        due("walk(99)", x.walk(99), 9);
        due("LOST", x.walked(4), 8);
        for (int i = 0; i < 8; i++) {
            due("found(1, " + i + ")", x.found(1, i), i + 1);
        }
    }

    private static void walks() {
        sentence(16, "0 states, 1 STEPS that were tried (also BAD ones, and those that would lead to one too many), "
            + "2 BADS, 3 STUCK states, 4 LOST states, 5 the most steps of a fewest walk to a state, 6 whether SPENT, "
            + "7 QUIET states.", () -> {
            CohereBench none = new CohereBench();
            for (int what = 0; what < 8; what++) {
                due("walked(" + what + ") without a walk", none.walked(what), 0);
            }
            dueWalked(new CohereBench(), 1, new int[] {1, 0, 0, 0, 0, 0, 0, 1});
            CohereBench x = withProcessors(1);
            put(x, CACHE, 0, LOAD, 0x70);
            put(x, CACHE, 0, STORE, 0x11);
            put(x, CACHE, 0, EVICT, 0x12);
            dueWalked(x, 1, new int[] {1, 3, 1, 0, 0, 0, 1, 1});
            dueWalked(x, 2, new int[] {2, 3, 1, 1, 1, 1, 1, 1});
            dueWalked(x, 3, new int[] {3, 3, 1, 1, 1, 1, 0, 2});
            dueWalked(ring(), 9, new int[] {9, 17, 8, 0, 0, 8, 0, 1});
            // What a greater walk had is gone with it.
            x = tree(false);
            x.walk(4000);
            x.right(0, 1);
            x.processors(2);
            dueWalked(x, 1, new int[] {1, 6, 1, 0, 0, 0, 1, 1});
            due("found(0, 0)", x.found(0, 0), -1);
            due("found(1, 0)", x.found(1, 0), -1);
            due("bad(0, 0)", x.bad(0, 0), 5);
            due("bad(1, 0)", x.bad(1, 0), -1);
            due("far(1)", x.far(1), -1);
        });
    }

    private static void dueWalked(CohereBench x, int most, int[] want) {
        x.walk(most);
        for (int what = 0; what < 8; what++) {
            due("walked(" + what + ") of walk(" + most + ")", x.walked(what), want[what]);
        }
    }

    private static void askedForStates() {
        sentence(18, "The i-th STUCK (how 0), LOST (1) state of the walk, in rising order: its number.", () -> {
            due("no walk", new CohereBench().found(0, 0), -1);
            CohereBench x = withProcessors(1);
            put(x, CACHE, 0, LOAD, 0x11);
            put(x, CACHE, 0, STORE, 0x22, 0x12);
            put(x, CACHE, 0, EVICT, 0x13);
            put(x, HOME, 0, 4);
            due("walk(9)", x.walk(9), 5);
            due("found(0, 0)", x.found(0, 0), 1);
            due("found(0, 1)", x.found(0, 1), 4);
            due("found(0, 2)", x.found(0, 2), -1);
            due("found(1, 0)", x.found(1, 0), 1);
            due("found(1, 1)", x.found(1, 1), 2);
            due("found(1, 2)", x.found(1, 2), 4);
            due("found(1, 3)", x.found(1, 3), -1);
        });
        sentence(19, "How many steps it takes to a state of the walk as it was found (these are the fewest).", () -> {
            due("no walk", new CohereBench().far(0), -1);
            CohereBench x = new CohereBench();
            x.walk(1);
            due("far(0)", x.far(0), 0);
            due("far(1)", x.far(1), -1);
            // To the cache's state 4 there are ways of 2, 3 and 4 steps: it is the walk's state 3.
            x = withProcessors(1);
            for (int s = 0; s < 3; s++) {
                put(x, CACHE, s, EVICT, 0x11 + s);
            }
            put(x, CACHE, 0, STORE, 0x80, 0x60, 0x13);
            put(x, CACHE, 1, STORE, 0x80, 0x60, 0x13);
            put(x, CACHE, 3, EVICT, 0x80, 0x60, 0x14);
            due("walk(99)", x.walk(99), 6);
            int[] far = {0, 1, 1, 2, 2, 3, -1};
            for (int n = 0; n <= 6; n++) {
                due("far(" + n + ")", x.far(n), far[n]);
            }
            x.go(3);
            due("the cache's state", x.end(0, 0), 4);
        });
    }

    private static void ways() {
        sentence(20, "The k-th (from 0 on) of these steps: its number among the STEPS there.", () -> {
            due("no walk", new CohereBench().way(0, 0), -1);
            CohereBench x = withProcessors(4);
            x.net(14, 1);
            x.net(15, 1);
            put(x, CACHE, 0, LOAD, 0x80, 0x11);
            put(x, CACHE, 0, STORE, 0x80, 0x11);
            put(x, CACHE, 0, EVICT, 0x2F, 0x2E);
            put(x, HOME, 0, 28);
            put(x, HOME, 0, 30);
            x.walk(4000);
            // The greatest number that a step can have: the last letter of eight, behind twelve steps of processors.
            choose(x, 2, 5, 8, 11, 19);
            int n = x.number();
            due("it is in the walk", n < 0 ? 0 : 1, 1);
            due("far", x.far(n), 5);
            int[] way = {2, 5, 8, 11, 19};
            for (int k = 0; k < 5; k++) {
                due("way(n, " + k + ")", x.way(n, k), way[k]);
            }
            due("way(n, 5)", x.way(n, 5), -1);
            due("way(0, 0)", x.way(0, 0), -1);
        });
    }

    private static void goes() {
        sentence(21, "THE RUN goes to a state of the walk: how many STEPS can be done there. NONE: no such state, or "
            + "the protocol was changed since the walk.", () -> {
            due("no walk", new CohereBench().go(0), -1);
            CohereBench x = ring();
            x.walk(9);
            due("go(1)", x.go(1), 2);
            due("letters", x.now(0), 8);
            due("go(0)", x.go(0), 1);
            due("letters", x.now(0), 0);
            due("go(8)", x.go(8), 2);
            due("letters", x.now(0), 1);
            due("go(9)", x.go(9), -1);
            due("letters", x.now(0), 1);
            for (int change = 0; change < 5; change++) {
                changeBack(x, change);
                due("go(0) behind a change", x.go(0), -1);
                due("number() behind a change", x.number(), -1);
                due("walk(9)", x.walk(9), 9);
                due("go(8) behind a new walk", x.go(8), 2);
            }
        });
        sentence(22, "The number, in the walk, of the state in which THE RUN is; NONE: it is none of these, or the "
            + "protocol was changed since.", () -> {
            due("no walk", new CohereBench().number(), -1);
            CohereBench x = ring();
            x.walk(8);
            due("THE FIRST", x.number(), 0);
            for (int n = 1; n <= 9; n++) {
                choose(x, x.steps() - 1);
                due("number() behind " + n + " steps", x.number(), n == 8 ? -1 : n % 9);
            }
            x.right(0, 0);
            due("number() behind a change", x.number(), -1);
            due("walk(4001)", x.walk(4001), -1);
            due("a refused walk is none", x.number(), -1);
            x.walk(1);
            due("number()", x.number(), 0);
        });
    }

    /** A change that leaves the protocol as it was. */
    private static void changeBack(CohereBench x, int change) {
        switch (change) {
            case 0: x.processors(1); break;
            case 1: x.net(0, 0); break;
            case 2: x.right(0, 0); break;
            case 3: put(x, HOME, 0, 2); break;
            default: x.tear(where(HOME, 15, 0, 0)); break;
        }
    }

    private static void used() {
        sentence(23, "Whether the latest walk used a row (1, 0). where as in row() (n does not count).", () -> {
            CohereBench x = withProcessors(1);
            put(x, CACHE, 0, EVICT, 0x1F, 0x2F);
            put(x, HOME, 0, 30, 0x1F, 0x2F);
            put(x, CACHE, 15, 18, 0x40);
            put(x, CACHE, 15, 3, 0x90);
            put(x, HOME, 15, 31);
            int[] rows = {where(CACHE, 0, EVICT, 0), where(HOME, 0, 30, 0), where(CACHE, 15, 18, 0),
                where(CACHE, 15, 3, 0), where(HOME, 15, 31, 0)};
            dueUsed(x, rows, new int[] {0, 0, 0, 0, 0});
            choose(x, 0);
            dueUsed(x, rows, new int[] {0, 0, 0, 0, 0});
            // One state: the step that would lead to one too many was tried, too.
            x.walk(1);
            dueUsed(x, rows, new int[] {1, 0, 0, 0, 0});
            x.walk(2);
            dueUsed(x, rows, new int[] {1, 1, 0, 0, 0});
            due("walk(9)", x.walk(9), 4);
            dueUsed(x, rows, new int[] {1, 1, 1, 0, 0});
            x.right(0, 1);
            dueUsed(x, rows, new int[] {1, 1, 1, 0, 0});
            x.walk(1);
            dueUsed(x, rows, new int[] {1, 0, 0, 0, 0});
        });
        sentence(23, "NONE: no such side, state, event; or there is no such row now.", () -> {
            CohereBench x = counters(1, 1);
            x.walk(9);
            due("used", x.used(where(CACHE, 0, EVICT, 0)), 1);
            x.tear(where(CACHE, 0, EVICT, 0));
            due("used, but gone", x.used(where(CACHE, 0, EVICT, 0)), -1);
            due("never there", x.used(where(CACHE, 0, LOAD, 0)), -1);
            x.walk(9);
            put(x, CACHE, 0, EVICT);
            due("not there when the walk was done", x.used(where(CACHE, 0, EVICT, 0)), 0);
        });
    }

    private static void dueUsed(CohereBench x, int[] rows, int[] want) {
        for (int i = 0; i < rows.length; i++) {
            due("used, n 0, of row " + i, x.used(rows[i]), want[i]);
            due("used, n 15, of row " + i, x.used(rows[i] + 15), want[i]);
        }
    }
}
