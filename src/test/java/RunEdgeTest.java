/** The boundary cases that the document's sentences on states and steps name: promises 8 to 14, and their terms. */
public final class RunEdgeTest extends Desk {
    private static final int[] EIGHT_LETTERS = {0x21, 0x21, 0x21, 0x21, 0x21, 0x21, 0x21, 0x21};

    public static void main(String[] args) {
        statesOfAll();
        numbersOfLetters();
        steps();
        badSteps();
        badStates();
        promises();
        finish();
    }

    private static void statesOfAll() {
        sentence(TERMS, "and the letters under way, at most 8, each with KIND, from, to, FOR, DATA.", () -> {
            for (int n = 1; n <= 8; n++) {
                CohereBench x = withProcessors(1);
                x.row(where(CACHE, 0, EVICT, n), 0x21212121, 0x21212121);
                put(x, CACHE, 0, STORE, 0x22);
                choose(x, 1);
                due("now(0)", x.now(0), n);
                due("the last one's KIND", x.letter(n - 1, 0), 1);
                due("one more letter", x.letter(n, 0), -1);
                due("one more is sent to " + n, x.choose(0), n < 8 ? 0 : 3);
            }
            greatestLetters();
            leastLetters();
        });
        sentence(TERMS, "It is the same as another one if all this is the same, for each two ends and ORDERED letters "
            + "from one to the other in the same order, else in any order.", RunEdgeTest::sameness);
        sentence(TERMS, "THE FIRST: all states 0, all WANT nothing, caches' DATA STALE, the home's FRESH, "
            + "no HOLDERS, no letters.", () -> {
            for (int p = 1; p <= 4; p++) {
                CohereBench x = withProcessors(p);
                dueFirst(x, p);
                put(x, CACHE, 0, STORE, 0x80, 0x1F, 0x21, 0x22);
                put(x, CACHE, 15, LOAD, 0x1E);
                put(x, HOME, 0, 2, 0x1F, 0x50);
                for (int c = 0; c < p; c++) {
                    choose(x, c);
                }
                for (int c = 0; c < p; c++) {
                    choose(x, 0);
                }
                choose(x, 0);
                due("the home has gone on", x.end(p, 0), 15);
                x.reset();
                dueFirst(x, p);
            }
        });
        sentence(TERMS, "THE RUN is in a state of all, THE FIRST at first.", () -> dueFirst(new CohereBench(), 2));
    }

    private static void dueFirst(CohereBench x, int p) {
        for (int c = 0; c <= p; c++) {
            due("state of " + c, x.end(c, 0), 0);
            due("DATA of " + c, x.end(c, 1), c == p ? 1 : 0);
            due("WANTS or HOLDERS of " + c, x.end(c, 2), 0);
        }
        due("now(0)", x.now(0), 0);
        due("letter(0, 0)", x.letter(0, 0), -1);
    }

    /** Eight letters with the greatest numbers that there can be are kept by the walk as they are. */
    private static void greatestLetters() {
        for (int loose = 0; loose < 2; loose++) {
            CohereBench x = withProcessors(4);
            x.net(15, loose);
            put(x, CACHE, 0, EVICT, 0x20);
            put(x, HOME, 0, 0, 0x1F, 0x50, 0x3F, 0x3F, 0x3F, 0x3F);
            put(x, HOME, 15, 0, 0x3F, 0x3F, 0x3F, 0x3F);
            String eight = "154331 154331 154331 154331 154331 154331 154331 154331";
            choose(x, 3, 4, 3, 4);
            dueLetters(x, eight);
            due("steps()", x.steps(), loose == 0 ? 5 : 12);
            due("the walk is not SPENT", Math.min(0, x.walk(4000)), 0);
            int n = x.number();
            x.reset();
            due("go", x.go(n), loose == 0 ? 5 : 12);
            due("number()", x.number(), n);
            dueLetters(x, eight);
            due("the home's state", x.end(4, 0), 15);
            due("HOLDERS", x.end(4, 2), 8);
        }
    }

    /** A letter whose numbers are all 0 is one, too. */
    private static void leastLetters() {
        for (int n = 1; n <= 8; n++) {
            CohereBench x = withProcessors(1);
            x.row(where(CACHE, 0, EVICT, n), 0x40404040, 0x40404040);
            due("the walk is not SPENT", Math.min(0, x.walk(4000)), 0);
            choose(x, 0);
            due("number()", x.number(), 1);
            x.reset();
            due("go(1)", x.go(1), 2);
            due("now(0)", x.now(0), n);
            dueLetters(x, "00000 ".repeat(n).trim());
        }
    }

    /** How many states there are if EVICT does some acts and STORE others, from THE FIRST alone: 2 or 3. */
    private static int states(int loose, int[] evict, int[] store) {
        CohereBench x = withProcessors(1);
        for (int k = 0; k < 16; k++) {
            x.net(k, loose >> k & 1);
        }
        put(x, CACHE, 0, EVICT, behindStore(evict));
        put(x, CACHE, 0, STORE, behindStore(store));
        return x.walk(4000);
    }

    /** Behind a store the home's DATA are STALE; the cache's own are made so, too. */
    private static int[] behindStore(int[] acts) {
        int[] all = new int[3 + acts.length];
        all[0] = 0x80;
        all[1] = 0x60;
        all[2] = 0x11;
        System.arraycopy(acts, 0, all, 3, acts.length);
        return all;
    }

    private static int[] acts(int... acts) {
        return acts;
    }

    private static void sameness() {
        due("all the same", states(0, acts(), acts()), 2);
        due("a cache's state", states(0, acts(0x12), acts(0x13)), 3);
        due("a cache's DATA", states(0, acts(0x80), acts()), 3);
        due("the same letter", states(0, acts(0x21), acts(0x21)), 2);
        due("KIND", states(0, acts(0x21), acts(0x22)), 3);
        due("KIND 15", states(0, acts(0x2F), acts(0x27)), 3);
        due("to", states(0, acts(0x21), acts(0x41)), 3);
        due("DATA of a letter", states(0, acts(0x80, 0x21), acts(0x80, 0x31)), 3);
        due("how many letters", states(0, acts(0x21), acts(0x21, 0x21)), 3);
        due("ORDERED ones", states(0, acts(0x21, 0x22), acts(0x22, 0x21)), 3);
        due("ORDERED ones by DATA", states(0, acts(0x80, 0x21, 0x31), acts(0x80, 0x31, 0x21)), 3);
        due("ORDERED ones to two ends", states(0, acts(0x21, 0x42), acts(0x42, 0x21)), 2);
        due("LOOSE ones", states(6, acts(0x21, 0x22), acts(0x22, 0x21)), 2);
        due("LOOSE ones by DATA", states(2, acts(0x80, 0x21, 0x31), acts(0x80, 0x31, 0x21)), 2);
        due("LOOSE ones, how many of each", states(6, acts(0x21, 0x22, 0x22), acts(0x22, 0x21, 0x21)), 3);
        due("one of them LOOSE", states(4, acts(0x21, 0x22), acts(0x22, 0x21)), 2);
        due("a LOOSE one amid ORDERED ones", states(4, acts(0x21, 0x22, 0x23), acts(0x21, 0x23, 0x22)), 2);
        due("ORDERED ones around it", states(4, acts(0x21, 0x22, 0x23), acts(0x23, 0x22, 0x21)), 3);
        samenessOfWants();
        samenessOfHome();
        samenessOfFrom();
        samenessOfFor();
    }

    private static void samenessOfWants() {
        CohereBench x = withProcessors(1);
        put(x, CACHE, 0, LOAD, 0x11);
        put(x, CACHE, 0, STORE, 0x11);
        put(x, CACHE, 0, EVICT, 0x11);
        due("WANTS", x.walk(4000), 4);
    }

    private static void samenessOfHome() {
        int[][] one = {{}, {0x13}, {0x80}, {0x50}};
        for (int i = 0; i < one.length; i++) {
            CohereBench x = withProcessors(1);
            put(x, CACHE, 0, EVICT, 0x80, 0x31, 0x11);
            put(x, CACHE, 0, STORE, 0x80, 0x32, 0x11);
            put(x, HOME, 0, 2, one[i]);
            put(x, HOME, 0, 4);
            due("the home's state, DATA, HOLDERS " + i, x.walk(4000), i == 0 ? 4 : 5);
        }
    }

    /** A letter from the cache to itself, and the same one from the home. */
    private static void samenessOfFrom() {
        CohereBench x = withProcessors(1);
        put(x, CACHE, 0, EVICT, 0x80, 0x60, 0x11, 0x41);
        put(x, CACHE, 0, STORE, 0x80, 0x60, 0x11, 0x22);
        put(x, HOME, 0, 4, 0x21);
        due("from", x.walk(4000), 4);
    }

    /** The home tells the holder 0 of 1 or of 2, whichever letter comes first; the other one comes to nothing. */
    private static void samenessOfFor() {
        CohereBench x = withProcessors(3);
        put(x, CACHE, 0, EVICT, 0x21, 0x11);
        put(x, HOME, 0, 2, 0x50, 0x13);
        put(x, HOME, 3, 3, 0x42, 0x14);
        put(x, HOME, 4, 3);
        x.walk(4000);
        int[] numbers = new int[2];
        for (int first = 0; first < 2; first++) {
            x.reset();
            choose(x, 0, 2, 0, 0, first, 0);
            dueLetters(x, first == 0 ? "23010" : "23020");
            numbers[first] = x.number();
            due("it is in the walk", Math.min(0, numbers[first]), 0);
        }
        due("FOR", numbers[0] == numbers[1] ? 1 : 0, 0);
    }

    private static void numbersOfLetters() {
        sentence(TERMS, "Letters are numbered from 0 on: by from, then by to, then ORDERED ones ahead of LOOSE ones; "
            + "ORDERED ones as they were sent; LOOSE ones by KIND, then FOR, then DATA (STALE first).", () -> {
            CohereBench x = withProcessors(3);
            put(x, CACHE, 0, EVICT, 0x21, 0x42, 0x11);
            put(x, HOME, 0, 2, 0x20);
            choose(x, 2, 1, 0);
            dueLetters(x, "20000 10300 21110 11310 22220 12320");
            choose(x, 1);
            dueLetters(x, "20000 21110 11310 22220 12320 03000");

            x = withProcessors(1);
            x.net(2, 1);
            put(x, CACHE, 0, EVICT, 0x22, 0x29, 0x23, 0x29, 0x21);
            choose(x, 0);
            dueLetters(x, "90100 30100 90100 10100 20100");

            // The greatest ORDERED one stays ahead of the least.
            x = withProcessors(4);
            put(x, CACHE, 0, STORE, 0x80, 0x3F, 0x20, 0x3F, 0x2F);
            choose(x, 3);
            dueLetters(x, "153431 03430 153431 153430");

            x = withProcessors(1);
            x.net(15, 1);
            x.net(0, 1);
            x.net(8, 1);
            put(x, CACHE, 0, STORE, 0x80, 0x3F, 0x2F, 0x38, 0x28, 0x30, 0x20);
            choose(x, 0);
            dueLetters(x, "00100 00101 80100 80101 150100 150101");
            looseByFor();
        });
    }

    /** FOR comes behind KIND and ahead of DATA. */
    private static void looseByFor() {
        CohereBench x = withProcessors(2);
        for (int k = 6; k < 9; k++) {
            x.net(k, 1);
        }
        put(x, CACHE, 0, EVICT, 0x21);
        put(x, HOME, 0, 2, 0x50, 0x38, 0x37);
        put(x, HOME, 0, 3, 0x47, 0x46, 0x48);
        choose(x, 0, 2);
        dueLetters(x, "72001 82001");
        choose(x, 1, 2);
        dueLetters(x, "62010 72001 72010 82001 82010");
    }

    private static void steps() {
        sentence(TERMS, "for each processor that WANTS nothing, the least first: LOAD, STORE, EVICT, if its cache has "
            + "a row for its state and that, that has no WAIT;", () -> {
            for (int rows = 0; rows < 27; rows++) {
                ownSteps(new int[] {rows % 3, rows / 3 % 3, rows / 9});
            }
        });
        sentence(TERMS, "behind these, for each letter, as they are numbered, its coming, unless it is ORDERED and an "
            + "ORDERED one from the same end to the same one is ahead of it, or the row for it has a WAIT.",
            RunEdgeTest::comings);
        sentence(TERMS, "(No row is no WAIT.)", () -> {
            CohereBench x = withProcessors(1);
            put(x, CACHE, 0, EVICT, 0x21, 0x11);
            put(x, HOME, 0, 2, 0x90);
            choose(x, 0);
            due("a WAIT", x.steps(), 0);
            x.tear(where(HOME, 0, 2, 0));
            choose(x, 0);
            due("no row any more", x.steps(), 1);
            due("choose(0)", x.choose(0), 1);
            put(x, HOME, 0, 2);
            choose(x, 0);
            due("a row of no acts", x.steps(), 1);
            due("choose(0)", x.choose(0), 0);
            due("nothing is a row for LOAD, STORE, EVICT", x.steps(), 0);
        });
        sentence(TERMS, "of LOAD and STORE the processor WANTS that; a letter that comes is under way no more; "
            + "then the ACTS are done, one behind the other.", () -> {
            CohereBench x = withProcessors(3);
            put(x, CACHE, 0, LOAD, 0x11);
            put(x, CACHE, 0, STORE, 0x11);
            put(x, CACHE, 0, EVICT, 0x11);
            choose(x, 8, 4, 0);
            due("WANTS behind LOAD", x.end(0, 2), 1);
            due("WANTS behind STORE", x.end(1, 2), 2);
            due("WANTS behind EVICT", x.end(2, 2), 0);
            x = withProcessors(1);
            put(x, CACHE, 0, EVICT, EIGHT_LETTERS);
            put(x, HOME, 0, 2, 0x11, 0x22);
            put(x, HOME, 1, 2, 0x10);
            choose(x, 0, 1);
            due("one has come, one has gone", x.now(0), 8);
            choose(x, 1);
            due("one has come", x.now(0), 7);
            due("the last act stays", x.end(1, 0), 0);
        });
    }

    /** Of each of LOAD, STORE, EVICT: 0 no row, 1 a row, 2 one with a WAIT. */
    private static void ownSteps(int[] rows) {
        CohereBench x = withProcessors(4);
        int count = 0;
        int[] events = new int[3];
        for (int event = 0; event < 3; event++) {
            if (rows[event] > 0) {
                put(x, CACHE, 0, event, 0x15, rows[event] == 1 ? 0x80 : 0x90);
            }
            if (rows[event] == 1) {
                events[count++] = event;
            }
            put(x, CACHE, 1, event, 0x90);
        }
        due("steps()", x.steps(), 4 * count);
        for (int i = 0; i < 4 * count; i++) {
            due("the processor of " + i, x.step(i, 0), i / count);
            due("the event of " + i, x.step(i, 1), events[i % count]);
            due("no letter comes by " + i, x.step(i, 2), -1);
        }
        due("one more", x.step(4 * count, 0), -1);
    }

    private static void comings() {
        for (int loose = 0; loose < 2; loose++) {
            CohereBench x = withProcessors(1);
            x.net(1, loose);
            put(x, CACHE, 0, EVICT, EIGHT_LETTERS);
            put(x, CACHE, 0, LOAD, 0x90);
            choose(x, 0);
            due("steps() of 8 in one line", x.steps(), loose == 0 ? 2 : 9);
            put(x, HOME, 0, 2, 0x90);
            choose(x, 0);
            due("steps() of 8 that wait", x.steps(), 1);
        }
        // Two ORDERED ones to the home, two to itself, two LOOSE ones, of each of two processors.
        CohereBench x = new CohereBench();
        x.net(3, 1);
        put(x, CACHE, 0, EVICT, 0x21, 0x22, 0x41, 0x23, 0x11);
        put(x, CACHE, 1, kind(1));
        choose(x, 1, 0);
        dueLetters(x, "10000 10200 20200 30200 11110 11210 21210 31210");
        due("steps()", x.steps(), 6);
        int[] kinds = {1, 1, 3, 1, 1, 3};
        int[] to = {0, 2, 2, 1, 2, 2};
        for (int i = 0; i < 6; i++) {
            due("the end of " + i, x.step(i, 0), to[i]);
            due("the event of " + i, x.step(i, 1), kind(kinds[i]));
            due("the sender of " + i, x.step(i, 2), i / 3);
        }
        // The first ORDERED one waits: so do those behind it, but not the LOOSE one.
        put(x, HOME, 0, 2, 0x90);
        choose(x, 0);
        due("steps()", x.steps(), 3);
        due("step(2, 1)", x.step(2, 1), kind(3));
    }

    private static void badSteps() {
        sentence(TERMS, "It is BAD: 1 if there is no row for the letter that comes;", () -> {
            for (int k = 0; k < 16; k += 15) {
                CohereBench x = withProcessors(1);
                put(x, CACHE, 0, EVICT, 0x20 + k, 0x40 + k);
                choose(x, 0);
                due("to the cache", x.choose(1), 1);
                due("to the home", x.choose(2), 1);
                put(x, HOME, 0, 2 * k);
                put(x, CACHE, 0, kind(k));
                choose(x, 0);
                due("to the home, by a row of no acts", x.choose(2), 0);
                due("to the cache, by a row of no acts", x.choose(1), 0);
                due("now(2)", x.now(2), 1);
            }
        });
        sentence(TERMS, "2 if a load is done and the cache's DATA are STALE;", () -> {
            for (int event = LOAD; event <= EVICT; event++) {
                CohereBench x = withProcessors(1);
                put(x, CACHE, 0, event, 0x70);
                due("STALE", x.choose(0), 2);
                put(x, CACHE, 0, event, 0x80, 0x70);
                due("FRESH", x.choose(0), 0);
                due("WANTS", x.end(0, 2), 0);
                put(x, CACHE, 0, event, 0x80, 0x60, 0x70);
                due("STALE again", x.choose(0), 2);
            }
        });
        sentence(TERMS, "3 if there would be more than 8 letters;", () -> {
            for (int op = 2; op <= 5; op++) {
                CohereBench x = withProcessors(1);
                put(x, CACHE, 0, STORE, 0x21, 0x80, 16 * op);
                put(x, CACHE, 0, EVICT, 0x21, 0x21, 0x21, 0x21, 0x21, 0x21);
                choose(x, 1);
                due("a seventh and an eighth by op " + op, x.choose(0), 0);
                due("a ninth and a tenth by op " + op, x.choose(0), 3);
                due("now(0)", x.now(0), 8);
                put(x, CACHE, 0, EVICT, 0x21, 0x21, 0x21, 0x21, 0x21, 0x21, 0x21);
                choose(x, 1);
                due("an eighth and a ninth by op " + op, x.choose(0), 3);
                due("now(0)", x.now(0), 7);
            }
            tooManyFromHome();
        });
        sentence(TERMS, "the first of these that comes up, and it leads nowhere then.", () -> {
            CohereBench x = withProcessors(1);
            put(x, CACHE, 0, EVICT, EIGHT_LETTERS);
            put(x, CACHE, 0, LOAD, 0x12, 0x21, 0x70);
            put(x, CACHE, 0, STORE, 0x12, 0x70, 0x21);
            choose(x, 2);
            due("a ninth, then a load", x.choose(0), 3);
            due("a load, then a ninth", x.choose(1), 2);
            due("the state", x.end(0, 0), 0);
            due("WANTS", x.end(0, 2), 0);
            // Of the walk: EVICT alone leads to another state.
            due("walk(4000)", x.walk(4000), 2);
            due("walked(2)", x.walked(2), 6);
        });
    }

    /** Three HOLDERS are told at once: with 5 letters more there are 8, with 6 there would be 9. */
    private static void tooManyFromHome() {
        for (int more = 5; more <= 6; more++) {
            CohereBench x = withProcessors(4);
            put(x, CACHE, 0, LOAD, 0x80, 0x27);
            put(x, CACHE, 0, EVICT, 0x21);
            x.row(where(CACHE, 0, STORE, more), 0x42424242, 0x42424242);
            put(x, HOME, 0, 14, 0x50);
            put(x, HOME, 0, 15, 0x50);
            put(x, HOME, 0, 3, 0x43);
            for (int p = 1; p < 4; p++) {
                choose(x, 3 * p, 12);
            }
            // Processor 3 WANTS a store then: there are nine steps of the others ahead of the letters.
            choose(x, 2, 10);
            due("letters", x.now(0), 1 + more);
            due("the home tells three more than " + more, x.choose(9), more == 5 ? 0 : 3);
            due("letters", x.now(0), more == 5 ? 8 : 7);
        }
    }

    private static void badStates() {
        sentence(TERMS, "A STATE OF ALL is BAD: 4 if a cache has a state with the RIGHT to write, and another one a "
            + "RIGHT to read or write; else 5 if a cache has a RIGHT and STALE DATA.", () -> {
            for (int one = 0; one < 3; one++) {
                for (int other = 0; other < 3; other++) {
                    rightsOfTwo(one, other);
                }
            }
            freshReaders();
        });
        sentence(TERMS, "It is QUIET if no processor WANTS anything and no letter is under way; STUCK if no STEP can be "
            + "done and it is not QUIET.", () -> {
            for (int p = 1; p <= 4; p++) {
                CohereBench x = withProcessors(p);
                dueQuietStuck(x, 1, 0);
                put(x, CACHE, 0, LOAD, 0x11);
                put(x, CACHE, 0, EVICT, 0x12);
                dueQuietStuck(x, 1, 0);
                for (int c = 0; c < p - 1; c++) {
                    choose(x, 1);
                }
                dueQuietStuck(x, 1, 0);
                // The last one WANTS a load that is never done.
                choose(x, 0);
                dueQuietStuck(x, 0, 1);
                put(x, CACHE, 1, EVICT);
                choose(x, 0);
                dueQuietStuck(x, 0, p == 1 ? 1 : 0);
            }
            lettersAndStuck();
            quietWithHolders();
        });
    }

    private static void dueQuietStuck(CohereBench x, int quiet, int stuck) {
        due("QUIET", x.now(2), quiet);
        due("STUCK", x.now(3), stuck);
    }

    private static void lettersAndStuck() {
        CohereBench x = withProcessors(1);
        put(x, CACHE, 0, STORE, 0x11);
        choose(x, 0);
        dueQuietStuck(x, 0, 1);
        put(x, CACHE, 0, EVICT, 0x11, 0x21);
        choose(x, 1);
        // A BAD step is one that can be done.
        dueQuietStuck(x, 0, 0);
        put(x, HOME, 0, 2, 0x90);
        choose(x, 1);
        dueQuietStuck(x, 0, 1);
        put(x, CACHE, 1, EVICT);
        choose(x, 1);
        dueQuietStuck(x, 0, 0);
        x.reset();
        dueQuietStuck(x, 1, 0);
    }

    /** States, DATA and HOLDERS do not count: here all are as great as they can be. */
    private static void quietWithHolders() {
        for (int p = 1; p <= 4; p++) {
            CohereBench x = withProcessors(p);
            put(x, CACHE, 0, EVICT, 0x80, 0x1F, 0x31);
            put(x, HOME, 0, 2, 0x80, 0x1F, 0x50);
            put(x, HOME, 15, 3, 0x80, 0x1F, 0x50);
            for (int c = 0; c < p; c++) {
                choose(x, 0);
                chooseLast(x);
                dueQuietStuck(x, 1, 0);
            }
            due("HOLDERS", x.end(p, 2), (1 << p) - 1);
            due("the home's DATA", x.end(p, 1), 1);
        }
    }

    /** Processors 0 and 3 of four come to states of these RIGHTS: all STALE, then 0 by a store, then 3. */
    private static void rightsOfTwo(int one, int other) {
        CohereBench x = withProcessors(4);
        x.right(1, one);
        x.right(2, other);
        put(x, CACHE, 0, LOAD, 0x11);
        put(x, CACHE, 0, EVICT, 0x12);
        put(x, CACHE, 2, EVICT, 0x80);
        put(x, CACHE, 1, EVICT, 0x80);
        put(x, CACHE, 0, STORE, 0x80, 0x11);
        due("THE FIRST", x.now(1), 0);
        choose(x, 0);
        due("one " + one, x.now(1), one == 0 ? 0 : 5);
        choose(x, 8);
        boolean both = one == 2 && other > 0 || other == 2 && one > 0;
        due("STALE " + one + ", " + other, x.now(1), both ? 4 : one + other > 0 ? 5 : 0);
        x.reset();
        choose(x, 11);
        choose(x, 1);
        due("FRESH " + one + ", STALE " + other, x.now(1), both ? 4 : other > 0 ? 5 : 0);
        x.reset();
        choose(x, 11);
        choose(x, 0);
        choose(x, x.steps() - 1);
        due("STALE " + one + ", FRESH " + other, x.now(1), both ? 4 : one > 0 ? 5 : 0);
    }

    /** The home gives its FRESH DATA to each: readers may be many; one that writes must be alone. */
    private static void freshReaders() {
        for (int right = 0; right < 3; right++) {
            CohereBench x = withProcessors(4);
            x.right(1, right);
            put(x, CACHE, 0, EVICT, 0x21);
            put(x, HOME, 0, 2, 0x32);
            put(x, CACHE, 0, kind(2), 0x60, 0x11);
            for (int p = 0; p < 4; p++) {
                choose(x, 0);
                chooseLast(x);
                chooseLast(x);
                due(p + " and those ahead of it, RIGHT " + right, x.now(1), right == 2 && p > 0 ? 4 : 0);
            }
        }
    }

    /** Four processors with all their steps, eight letters that can all come. */
    private static CohereBench full() {
        CohereBench x = withProcessors(4);
        x.net(14, 1);
        x.net(15, 1);
        put(x, CACHE, 0, LOAD, 0x11, 0x80);
        put(x, CACHE, 0, STORE, 0x11, 0x80);
        put(x, CACHE, 0, EVICT, 0x2F, 0x2E);
        return x;
    }

    private static void promises() {
        sentence(8, "THE RUN begins anew: how many STEPS can be done.", () -> {
            due("reset() of a new object", new CohereBench().reset(), 0);
            CohereBench x = full();
            due("reset() where it is", x.reset(), 12);
            choose(x, 2, 5, 8, 11);
            due("letters", x.now(0), 8);
            due("reset()", x.reset(), 12);
            due("letters", x.now(0), 0);
            due("steps()", x.steps(), 12);
        });
        sentence(9, "How many STEPS can be done.", () -> {
            due("steps() of a new object", new CohereBench().steps(), 0);
            CohereBench x = full();
            choose(x, 2, 5, 8, 11);
            due("steps(), the most that there can be", x.steps(), 20);
        });
        sentence(10, "0 the processor that does it, or the end to which the letter comes, 1 the EVENT (of a letter 3 "
            + "and its KIND), 2 the end from which the letter comes (-1 of LOAD, STORE, EVICT).", () -> {
            CohereBench x = full();
            choose(x, 11, 8, 5, 2);
            for (int i = 0; i < 20; i++) {
                int letter = i - 12;
                due("step(" + i + ", 0)", x.step(i, 0), letter < 0 ? i / 3 : 4);
                due("step(" + i + ", 1)", x.step(i, 1), letter < 0 ? i % 3 : 17 + letter % 2);
                due("step(" + i + ", 2)", x.step(i, 2), letter < 0 ? -1 : letter / 2);
            }
            due("step(20, 0)", x.step(20, 0), -1);
            due("step(0, 0) of a new object", new CohereBench().step(0, 0), -1);
        });
        sentence(11, "STEP i is done: 0; or, if it is BAD, how (1 .. 3): then THE RUN stays where it was.",
            RunEdgeTest::badStepsStay);
        sentence(12, "Of processor c's cache (c is P: of the home): 0 its state, 1 its DATA (1 FRESH, 0 STALE), 2 what "
            + "it WANTS (of the home its HOLDERS: the sum of 2^p of each p).", () -> {
            CohereBench x = withProcessors(4);
            put(x, CACHE, 0, STORE, 0x11, 0x21);
            put(x, HOME, 0, 2, 0x50);
            put(x, HOME, 0, 3, 0x50);
            for (int p = 3; p >= 0; p--) {
                choose(x, p);
                chooseLast(x);
                due("HOLDERS", x.end(4, 2), 16 - (1 << p));
                due("WANTS", x.end(p, 2), 2);
            }
        });
        sentence(13, "Letter i: 0 KIND, 1 from, 2 to, 3 FOR, 4 DATA (1 FRESH).", () -> {
            CohereBench x = withProcessors(4);
            put(x, CACHE, 0, STORE, 0x80, 0x3F);
            choose(x, 3);
            int[] want = {15, 3, 4, 3, 1};
            for (int what = 0; what < 5; what++) {
                due("letter(0, " + what + ")", x.letter(0, what), want[what]);
            }
            due("letter(1, 0)", x.letter(1, 0), -1);
            x.reset();
            due("letter(0, 0) of none", x.letter(0, 0), -1);
        });
        sentence(14, "0 how many letters are under way; 1 whether the state is BAD (4, 5, or 0); 2 whether it is QUIET, "
            + "3 STUCK (1, 0).", () -> {
            CohereBench x = full();
            for (int p = 0; p < 4; p++) {
                due("now(0)", x.now(0), 2 * p);
                choose(x, 3 * p + 2);
            }
            due("now(0)", x.now(0), 8);
            due("now(1)", x.now(1), 0);
            dueQuietStuck(x, 0, 0);
        });
    }

    private static void badStepsStay() {
        CohereBench x = new CohereBench();
        put(x, CACHE, 0, EVICT, EIGHT_LETTERS);
        put(x, CACHE, 0, LOAD, 0x1F, 0x70);
        put(x, CACHE, 0, STORE, 0x80, 0x1F, 0x31);
        String eight = "10200 10200 10200 10200 10200 10200 10200 10200";
        choose(x, 2);
        dueLetters(x, eight);
        due("a STALE load", x.choose(3), 2);
        due("a ninth letter", x.choose(4), 3);
        due("no row", x.choose(6), 1);
        for (int c = 0; c < 3; c++) {
            due("the state of " + c, x.end(c, 0), 0);
            due("DATA of " + c, x.end(c, 1), c == 2 ? 1 : 0);
            due("WANTS of " + c, x.end(c, 2), 0);
        }
        dueLetters(x, eight);
        due("steps()", x.steps(), 7);
    }
}
