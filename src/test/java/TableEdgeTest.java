/** The boundary cases that the document's sentences on the protocol name: promises 1 to 7, and their terms. */
public final class TableEdgeTest extends Desk {
    private static final int CACHE_EVENTS = 19;
    private static final int HOME_EVENTS = 32;

    public static void main(String[] args) {
        ends();
        events();
        acts();
        actsOfCaches();
        actsOfHome();
        changes();
        promises();
        finish();
    }

    private static void ends() {
        sentence(WHAT_IT_IS, "An object is used for at most 512 calls after it has been made",
            TableEdgeTest::lastCall);
        sentence(TERMS, "PROCESSORS 0 .. P - 1 (P 1 to 4, 2 at first)", () -> {
            CohereBench x = new CohereBench();
            put(x, CACHE, 0, EVICT);
            due("steps()", x.steps(), 2);
            for (int p = 1; p <= 4; p++) {
                x.processors(p);
                due("steps() of " + p, x.steps(), p);
                due("the last one of " + p, x.step(p - 1, 0), p - 1);
                due("one more than " + p, x.step(p, 0), -1);
            }
        });
        sentence(TERMS, "ends are these and the HOME (number P).", () -> {
            for (int p = 1; p <= 4; p++) {
                CohereBench x = withProcessors(p);
                put(x, CACHE, 0, EVICT, 0x20);
                choose(x, p - 1);
                due("from", x.letter(0, 1), p - 1);
                due("to", x.letter(0, 2), p);
                due("the last cache's DATA", x.end(p - 1, 1), 0);
                due("the home's DATA", x.end(p, 1), 1);
                due("no end", x.end(p + 1, 1), -1);
            }
        });
        sentence(TERMS, "KINDS of letters 0 .. 15, each ORDERED (at first) or LOOSE.", () -> {
            for (int k = 0; k < 16; k++) {
                CohereBench x = withProcessors(1);
                put(x, CACHE, 0, EVICT, 0x20 + k, 0x20 + k, 0x11);
                choose(x, 0);
                due("KIND", x.letter(0, 0), k);
                due("ORDERED: the first can come", x.steps(), 1);
                due("net(" + k + ", 1)", x.net(k, 1), 0);
                choose(x, 0);
                due("KIND", x.letter(1, 0), k);
                due("LOOSE: both can come", x.steps(), 2);
            }
        });
        sentence(TERMS, "STATES of caches and of the home 0 .. 15.", TableEdgeTest::statesOfEnds);
        sentence(TERMS, "RIGHT of a cache's state: 0 none (at first), 1 to read, 2 to write.", () -> {
            CohereBench x = new CohereBench();
            for (int s = 0; s < 16; s++) {
                due("right(" + s + ", 0)", x.right(s, 0), 0);
            }
            due("STALE caches without a RIGHT", x.now(1), 0);
            // The home comes to the same number of a state, with STALE DATA: it has no RIGHT by that.
            x = withProcessors(1);
            x.right(3, 2);
            put(x, CACHE, 0, EVICT, 0x80, 0x60, 0x20, 0x11);
            put(x, HOME, 0, 0, 0x13);
            choose(x, 0, 0);
            due("the home's state", x.end(1, 0), 3);
            due("now(1)", x.now(1), 0);
        });
    }

    private static void lastCall() {
        CohereBench x = new CohereBench();
        put(x, CACHE, 0, EVICT, 0x11);
        put(x, CACHE, 1, EVICT, 0x10);
        for (int call = 3; call < 510; call++) {
            due("call " + call, x.choose(call % 2), 0);
        }
        due("call 510", x.walk(4000), 4);
        // Cache 0 had 253 of these steps, cache 1 had 254.
        due("call 511", x.number(), 1);
        due("call 512", x.end(0, 0), 1);
    }

    private static void statesOfEnds() {
        CohereBench x = withProcessors(1);
        put(x, CACHE, 0, EVICT, 0x1F, 0x20);
        put(x, HOME, 0, 0, 0x1F);
        put(x, CACHE, 15, EVICT, 0x10, 0x2F);
        put(x, HOME, 15, 30, 0x10);
        choose(x, 0);
        due("the cache's state", x.end(0, 0), 15);
        choose(x, 1);
        due("the home's state", x.end(1, 0), 15);
        choose(x, 0);
        due("the cache's state", x.end(0, 0), 0);
        choose(x, 1);
        due("the home's state", x.end(1, 0), 0);
    }

    private static void events() {
        sentence(TERMS, "0 LOAD, 1 STORE, 2 EVICT, 3 + k a letter of KIND k", () -> {
            for (int k = 0; k < 16; k++) {
                CohereBench x = withProcessors(1);
                for (int other = 0; other < 16; other++) {
                    put(x, CACHE, 0, kind(other), 0x12);
                }
                put(x, CACHE, 0, kind(k), 0x15);
                put(x, CACHE, 0, EVICT, 0x40 + k);
                choose(x, 0, 1);
                due("the row for KIND " + k, x.end(0, 0), 5);
            }
        });
        sentence(TERMS, "2 k a letter of KIND k, when no processor but the one that it is FOR is among the HOLDERS, "
            + "2 k + 1 one, when another one is, too.", () -> {
            for (int set = 0; set < 16; set++) {
                for (int p = 0; p < 4; p++) {
                    eventOf(set, p, 0);
                    eventOf(set, p, 15);
                }
            }
        });
        sentence(TERMS, "There are none at first.", () -> {
            CohereBench x = new CohereBench();
            CohereBench y = new CohereBench();
            for (int s = 0; s < 16; s++) {
                for (int e = 0; e < HOME_EVENTS; e++) {
                    due("a row of the home", x.used(where(HOME, s, e, 0)), -1);
                }
                for (int e = 0; e < CACHE_EVENTS; e++) {
                    due("a row of a cache", y.used(where(CACHE, s, e, 0)), -1);
                }
            }
            due("rows(0)", y.rows(0), 0);
            due("rows(1)", y.rows(1), 0);
        });
    }

    /** Four processors that can each come to the HOLDERS (its first step) and ask by another letter (its second). */
    private static CohereBench asking(int k) {
        CohereBench x = withProcessors(4);
        put(x, CACHE, 0, LOAD, 0x80, 0x27);
        put(x, CACHE, 0, EVICT, 0x20 + k);
        put(x, HOME, 0, 14, 0x50);
        put(x, HOME, 0, 15, 0x50);
        return x;
    }

    private static void hold(CohereBench x, int set) {
        for (int p = 0; p < 4; p++) {
            if ((set >> p & 1) == 1) {
                choose(x, 2 * p, 8);
            }
        }
        due("HOLDERS", x.end(4, 2), set);
    }

    private static void eventOf(int set, int asker, int k) {
        CohereBench x = asking(k);
        put(x, HOME, 0, 2 * k, 0x11);
        put(x, HOME, 0, 2 * k + 1, 0x12);
        hold(x, set);
        choose(x, 2 * asker + 1, 8);
        boolean alone = set == 0 || set == 1 << asker;
        due("HOLDERS " + set + ", FOR " + asker, x.end(4, 0), alone ? 1 : 2);
    }

    private static void acts() {
        sentence(TERMS, "A row is 0 to 8 ACTS", () -> {
            for (int n = 0; n <= 8; n++) {
                CohereBench x = withProcessors(1);
                due("row", x.row(where(CACHE, 0, EVICT, n), 0x11121314, 0x15161718), 0);
                choose(x, 0);
                due("the cache's state behind " + n, x.end(0, 0), n);
                x = withProcessors(1);
                put(x, CACHE, 0, EVICT, 0x20);
                due("row", x.row(where(HOME, 0, 0, n), 0x11121314, 0x15161718), 0);
                choose(x, 0, 1);
                due("the home's state behind " + n, x.end(1, 0), n);
            }
        });
        sentence(TERMS, "each a number 0 .. 255: 16 times its OP and its ARGUMENT.", () -> {
            for (int act = 0; act < 256; act++) {
                for (int at = 0; at < 8; at++) {
                    cacheAct(act, at);
                    homeAct(act, at);
                }
            }
        });
        sentence(TERMS, "Other OPS do nothing.", () -> {
            for (int op : new int[] {0, 10, 11, 12, 13, 14, 15}) {
                for (int argument : new int[] {0, 1, 9, 15}) {
                    nothingIsDone(16 * op + argument);
                }
            }
        });
        sentence(TERMS, "ARGUMENTS that an OP doesn't use don't count.", () -> {
            for (int argument = 0; argument < 16; argument++) {
                argumentsOfCache(argument);
                argumentsOfHome(argument);
            }
        });
    }

    /** The act as the at-th of eight, the others 0, in a row of the cache's EVICT. */
    private static CohereBench withAct(int side, int event, int act, int at) {
        CohereBench x = withProcessors(1);
        long both = (long) act << 56 - 8 * at;
        x.row(where(side, 0, event, 8), (int) (both >> 32), (int) both);
        return x;
    }

    private static void cacheAct(int act, int at) {
        int op = act / 16;
        int argument = act % 16;
        CohereBench x = withAct(CACHE, EVICT, act, at);
        due("steps() with " + act, x.steps(), op == 9 ? 0 : 1);
        due("choose(0) with " + act, x.choose(0), op == 9 ? -1 : op == 7 ? 2 : 0);
        due("the state behind " + act, x.end(0, 0), op == 1 ? argument : 0);
        due("DATA behind " + act, x.end(0, 1), op == 8 ? 1 : 0);
        due("letters behind " + act, x.now(0), op >= 2 && op <= 5 ? 1 : 0);
        due("KIND behind " + act, x.letter(0, 0), op >= 2 && op <= 5 ? argument : -1);
        due("to, behind " + act, x.letter(0, 2), op == 2 || op == 3 ? 1 : op == 4 || op == 5 ? 0 : -1);
    }

    private static void homeAct(int act, int at) {
        int op = act / 16;
        int argument = act % 16;
        CohereBench x = withAct(HOME, 0, act, at);
        put(x, CACHE, 0, EVICT, 0x20, 0x11);
        choose(x, 0);
        due("choose(0) with " + act, x.choose(0), op == 9 ? -1 : 0);
        due("the home's state behind " + act, x.end(1, 0), op == 1 ? argument : 0);
        due("the home's DATA behind " + act, x.end(1, 1), op == 8 ? 0 : 1);
        due("HOLDERS behind " + act, x.end(1, 2), op == 5 ? 1 : 0);
        due("letters behind " + act, x.now(0), op == 2 || op == 3 || op == 9 ? 1 : 0);
        due("KIND behind " + act, x.letter(0, 0), op == 2 || op == 3 ? argument : op == 9 ? 0 : -1);
        due("DATA behind " + act, x.letter(0, 4), op == 3 ? 1 : op == 2 || op == 9 ? 0 : -1);
    }

    private static void nothingIsDone(int act) {
        CohereBench x = withProcessors(1);
        put(x, CACHE, 0, STORE, 0x80, 0x14, 0x30, act);
        put(x, HOME, 0, 0, 0x80, 0x50, 0x13, act);
        choose(x, 0);
        due("a cache's state behind " + act, x.end(0, 0), 4);
        due("a cache's DATA behind " + act, x.end(0, 1), 1);
        due("WANTS behind " + act, x.end(0, 2), 0);
        dueLetters(x, "00101");
        choose(x, 0);
        due("the home's state behind " + act, x.end(1, 0), 3);
        due("the home's DATA behind " + act, x.end(1, 1), 1);
        due("HOLDERS behind " + act, x.end(1, 2), 1);
        due("letters behind " + act, x.now(0), 0);
    }

    private static void argumentsOfCache(int argument) {
        CohereBench x = withProcessors(1);
        put(x, CACHE, 0, LOAD, 0x20);
        put(x, CACHE, 0, EVICT, 0x90 + argument);
        put(x, HOME, 0, 0, 0x31);
        put(x, CACHE, 0, kind(1), 0x60 + argument, 0x70 + argument, 0x11);
        put(x, CACHE, 1, STORE, 0x60 + argument, 0x80 + argument);
        due("steps() without the WAIT " + argument, x.steps(), 1);
        choose(x, 0, 0, 0);
        due("DATA by 6, " + argument, x.end(0, 1), 1);
        due("WANTS by 7, " + argument, x.end(0, 2), 0);
        choose(x, 0);
        due("DATA by 8, " + argument, x.end(0, 1), 1);
        due("the state", x.end(0, 0), 1);
        due("the home's DATA", x.end(1, 1), 0);
    }

    private static void argumentsOfHome(int argument) {
        CohereBench x = withProcessors(1);
        put(x, CACHE, 0, LOAD, 0x80, 0x31, 0x32);
        put(x, CACHE, 0, EVICT, 0x23);
        put(x, HOME, 0, 2, 0x50 + argument, 0x80 + argument, 0x11);
        put(x, HOME, 1, 4, 0x60 + argument);
        put(x, HOME, 0, 6, 0x50, 0x70 + argument, 0x11);
        put(x, HOME, 1, 6, 0x90 + argument);
        choose(x, 0, 2);
        due("HOLDERS by 5, " + argument, x.end(1, 2), 1);
        due("DATA by 8, " + argument, x.end(1, 1), 1);
        choose(x, 2);
        due("HOLDERS by 6, " + argument, x.end(1, 2), 0);
        x.reset();
        choose(x, 1, 2);
        due("HOLDERS by 7, " + argument, x.end(1, 2), 0);
        choose(x, 1);
        due("steps() without the WAIT " + argument, x.steps(), 2);
    }

    private static void actsOfCaches() {
        sentence(TERMS, "6 its DATA become those of the letter at hand.", () -> {
            // FRESH ones over STALE ones, STALE ones over FRESH ones.
            CohereBench x = withProcessors(1);
            put(x, CACHE, 0, EVICT, 0x21);
            put(x, HOME, 0, 2, 0x32, 0x22);
            put(x, CACHE, 0, kind(2), 0x60);
            choose(x, 0, 1);
            dueLetters(x, "21001 21000");
            choose(x, 1);
            due("DATA", x.end(0, 1), 1);
            choose(x, 1);
            due("DATA", x.end(0, 1), 0);
        });
        sentence(TERMS, "7 a load is done, 8 a store is done: it WANTS nothing then;", () -> {
            for (int event = LOAD; event <= STORE; event++) {
                CohereBench x = new CohereBench();
                put(x, CACHE, 0, event, 0x21);
                put(x, HOME, 0, 2, 0x32);
                put(x, HOME, 0, 3, 0x32);
                for (int done = 0x70; done <= 0x80; done += 0x10) {
                    put(x, CACHE, 0, kind(2), 0x60, done);
                    choose(x, 1, 1);
                    due("WANTS", x.end(1, 2), 1 + event);
                    choose(x, 0);
                    chooseLast(x);
                    due("WANTS behind act " + done, x.end(1, 2), 0);
                    due("the other one WANTS", x.end(0, 2), 1 + event);
                }
            }
        });
        sentence(TERMS, "by a store its DATA are FRESH and all others (of caches, of the home, in letters, also in "
            + "the one at hand) STALE.", TableEdgeTest::allOthersAreStale);
        sentence(TERMS, "(A letter without DATA has STALE ones.", () -> {
            CohereBench x = withProcessors(1);
            put(x, CACHE, 0, STORE, 0x80, 0x21, 0x31, 0x42, 0x52);
            choose(x, 0);
            dueLetters(x, "20000 20001 10100 10101");
            x = withProcessors(2);
            put(x, CACHE, 0, EVICT, 0x20);
            put(x, HOME, 0, 0, 0x50, 0x21, 0x31);
            put(x, HOME, 0, 1, 0x43);
            choose(x, 0, 2);
            dueLetters(x, "12000 12001");
            choose(x, 1, 2);
            dueLetters(x, "12000 12001 32010");
            // What came without DATA makes the home's STALE.
            x = withProcessors(1);
            put(x, CACHE, 0, STORE, 0x80, 0x31, 0x20);
            put(x, HOME, 0, 2, 0x80);
            put(x, HOME, 0, 0, 0x80);
            choose(x, 0, 1);
            due("the home's DATA", x.end(1, 1), 1);
            choose(x, 1);
            due("the home's DATA", x.end(1, 1), 0);
        });
        sentence(TERMS, "In a row of EVENTS 0, 1, 2 letters at hand are FOR the cache itself, and have STALE DATA.)",
            () -> {
                for (int p = 0; p < 4; p++) {
                    for (int event = LOAD; event <= EVICT; event++) {
                        CohereBench x = withProcessors(4);
                        put(x, CACHE, 0, event, 0x80, 0x45, 0x56, 0x60);
                        choose(x, p);
                        due("DATA", x.end(p, 1), 0);
                        dueLetters(x, "5ppp0 6ppp1".replace("p", "" + p));
                    }
                }
                ownEventBehindLetter();
            });
        sentence(TERMS, "2 a letter of that KIND goes to the home, FOR itself, 3 the same with its DATA; 4 one goes to "
            + "whom the letter at hand is FOR, and is FOR it, too, 5 the same with its DATA.", () -> {
            for (int holder = 0; holder < 4; holder++) {
                for (int asker = 0; asker < 4; asker++) {
                    if (holder != asker) {
                        handOver(holder, asker);
                    }
                }
            }
        });
    }

    /** A letter with FRESH DATA has come; that it was at hand is forgotten by the next step. */
    private static void ownEventBehindLetter() {
        for (int event = STORE; event <= EVICT; event++) {
            CohereBench x = new CohereBench();
            put(x, CACHE, 0, LOAD, 0x21);
            put(x, HOME, 0, 2, 0x32);
            put(x, CACHE, 0, kind(2), 0x60, 0x70, 0x11);
            put(x, CACHE, 1, event, 0x60, 0x43);
            choose(x, 1, 1, 1);
            due("DATA of the letter", x.end(1, 1), 1);
            choose(x, 1);
            due("DATA of none", x.end(1, 1), 0);
            dueLetters(x, "31110");
        }
    }

    /** The home tells the holder whom a letter is FOR; that one answers to it, and to the home FOR itself. */
    private static void handOver(int holder, int asker) {
        CohereBench x = asking(1);
        put(x, CACHE, 0, STORE, 0x80, 0x15);
        put(x, HOME, 0, 3, 0x42);
        put(x, CACHE, 5, kind(2), 0x2C, 0x3D, 0x4E, 0x5F);
        choose(x, 3 * holder, 12, 3 * holder + 1);
        // The holder's state has no rows of its own: no steps of it stand ahead.
        int ahead = asker > holder ? asker - 1 : asker;
        choose(x, 3 * ahead + EVICT);
        chooseLast(x);
        dueLetters(x, "24" + holder + asker + "0");
        chooseLast(x);
        String toAsker = "14" + holder + asker + asker + "0 15" + holder + asker + asker + "1";
        String toHome = "12" + holder + "4" + holder + "0 13" + holder + "4" + holder + "1";
        dueLetters(x, toAsker + " " + toHome);
    }

    private static void allOthersAreStale() {
        CohereBench x = withProcessors(4);
        put(x, CACHE, 0, LOAD, 0x21);
        put(x, CACHE, 0, STORE, 0x80);
        put(x, CACHE, 0, EVICT, 0x33);
        put(x, HOME, 0, 2, 0x32);
        put(x, CACHE, 0, kind(2), 0x60, 0x70);
        for (int p = 0; p < 4; p++) {
            choose(x, 3 * p + LOAD);
            chooseLast(x);
            chooseLast(x);
            due("FRESH by a load", x.end(p, 1), 1);
        }
        choose(x, EVICT, 9 + LOAD);
        chooseLast(x);
        dueLetters(x, "30401 24331");
        choose(x, 6 + STORE);
        for (int c = 0; c <= 4; c++) {
            due("DATA of " + c, x.end(c, 1), c == 2 ? 1 : 0);
        }
        dueLetters(x, "30400 24330");
        due("a load by the letter", x.choose(x.steps() - 1), 2);

        x = withProcessors(1);
        put(x, CACHE, 0, LOAD, 0x21);
        put(x, HOME, 0, 2, 0x32);
        put(x, CACHE, 0, kind(2), 0x80, 0x60);
        choose(x, 0, 0, 0);
        due("DATA of the letter at hand", x.end(0, 1), 0);
    }

    private static void actsOfHome() {
        sentence(TERMS, "2 a letter of that KIND goes to whom the letter at hand is FOR, and is FOR it, 3 the same with "
            + "the home's DATA.", () -> {
            for (int p = 0; p < 4; p++) {
                CohereBench x = asking(1);
                put(x, HOME, 0, 2, 0x2E, 0x3F, 0x80, 0x3D);
                choose(x, 2 * p + 1, 8);
                dueLetters(x, "144pp0 154pp1 134pp0".replace("p", "" + p));
            }
        });
        sentence(TERMS, "8 the home's DATA become those of the letter.", () -> {
            CohereBench x = withProcessors(1);
            put(x, CACHE, 0, STORE, 0x80, 0x31, 0x21, 0x31);
            put(x, HOME, 0, 2, 0x80);
            choose(x, 0);
            for (int fresh : new int[] {1, 0, 1}) {
                choose(x, 1);
                due("the home's DATA", x.end(1, 1), fresh);
            }
        });
        sentence(TERMS, "4 one goes to each of the HOLDERS but that one, the least first, FOR that one, too.", () -> {
            for (int set = 0; set < 16; set++) {
                for (int asker = 0; asker < 4; asker++) {
                    CohereBench x = asking(1);
                    put(x, HOME, 0, 2, 0x45);
                    put(x, HOME, 0, 3, 0x45);
                    hold(x, set);
                    choose(x, 2 * asker + 1, 8);
                    StringBuilder want = new StringBuilder();
                    for (int p = 0; p < 4; p++) {
                        want.append(p != asker && (set >> p & 1) == 1 ? "54" + p + asker + "0 " : "");
                    }
                    dueLetters(x, want.toString().trim());
                }
            }
        });
        sentence(TERMS, "5 that one comes to the HOLDERS, 6 it goes from them, 7 all go.", () -> {
            CohereBench x = withProcessors(4);
            put(x, CACHE, 0, LOAD, 0x80, 0x25);
            put(x, CACHE, 0, STORE, 0x80, 0x26);
            put(x, CACHE, 0, EVICT, 0x27);
            for (int other = 0; other < 2; other++) {
                put(x, HOME, 0, 10 + other, 0x50);
                put(x, HOME, 0, 12 + other, 0x60);
                put(x, HOME, 0, 14 + other, 0x70);
            }
            dueHolders(x, 0, STORE, 0);
            dueHolders(x, 0, EVICT, 0);
            dueHolders(x, 3, LOAD, 8);
            dueHolders(x, 3, LOAD, 8);
            dueHolders(x, 0, STORE, 8);
            dueHolders(x, 0, LOAD, 9);
            dueHolders(x, 2, LOAD, 13);
            dueHolders(x, 1, LOAD, 15);
            dueHolders(x, 1, LOAD, 15);
            dueHolders(x, 3, STORE, 7);
            dueHolders(x, 3, STORE, 7);
            dueHolders(x, 3, LOAD, 15);
            dueHolders(x, 2, EVICT, 0);
            dueHolders(x, 2, STORE, 0);
        });
    }

    private static void dueHolders(CohereBench x, int p, int event, int want) {
        choose(x, 3 * p + event, 12);
        due("HOLDERS behind event " + event + " of " + p, x.end(4, 2), want);
    }

    private static void changes() {
        sentence(TERMS, "Whatever changes the protocol (processors, net, right, row, tear) begins THE RUN anew; "
            + "THE WALK stays as it was.", () -> {
            for (int change = 0; change < 9; change++) {
                changed(change);
            }
        });
        sentence(TERMS, "All memory is the class's own.", () -> {
            CohereBench x = withProcessors(1);
            CohereBench y = withProcessors(3);
            put(x, CACHE, 0, EVICT, 0x11, 0x21);
            put(y, CACHE, 0, LOAD, 0x12, 0x23, 0x24);
            choose(x, 0);
            choose(y, 2);
            due("walk(9) of one", x.walk(9), 2);
            due("walk(99) of the other", y.walk(99), 8);
            due("walked(0) of the one", x.walked(0), 2);
            due("rows(0) of the one", x.rows(0), 1);
            dueLetters(x, "10100");
            dueLetters(y, "32320 42320");
            due("steps() of the one", x.steps(), 1);
            due("steps() of the other", y.steps(), 3);
            due("number() of the one", x.number(), 1);
            due("number() of the other", y.number(), 3);
        });
    }

    /** Also those that say what was so already are no refusals. */
    private static void changed(int change) {
        CohereBench x = new CohereBench();
        put(x, CACHE, 0, LOAD, 0x11, 0x23);
        x.walk(100);
        choose(x, 0);
        switch (change) {
            case 0: due("processors(2)", x.processors(2), 2); break;
            case 1: due("processors(1)", x.processors(1), 2); break;
            case 2: due("net(15, 0)", x.net(15, 0), 0); break;
            case 3: due("net(3, 1)", x.net(3, 1), 0); break;
            case 4: due("right(15, 0)", x.right(15, 0), 0); break;
            case 5: due("right(1, 2)", x.right(1, 2), 0); break;
            case 6: due("row as it was", put(x, CACHE, 0, LOAD, 0x11, 0x23), 1); break;
            case 7: due("tear of none", x.tear(where(HOME, 15, 31, 0)), 0); break;
            default: due("tear", x.tear(where(CACHE, 0, LOAD, 0)), 1); break;
        }
        due("letters are gone", x.now(0), 0);
        due("the cache's state", x.end(0, 0), 0);
        due("WANTS", x.end(0, 2), 0);
        due("number()", x.number(), -1);
        due("go(0)", x.go(0), -1);
        due("walked(0)", x.walked(0), 4);
        due("walked(2)", x.walked(2), 4);
        due("walked(4)", x.walked(4), 3);
        due("far(3)", x.far(3), 2);
        due("way(2, 0)", x.way(2, 0), 1);
        due("bad(0, 1)", x.bad(0, 1), 1);
        due("found(1, 0)", x.found(1, 0), 1);
    }

    private static void promises() {
        sentence(1, "Two processors, no rows; no walk was done: it has no states.", TableEdgeTest::newObject);
        sentence(2, "P becomes n (1 .. 4): what it was.", () -> {
            for (int was = 1; was <= 4; was++) {
                for (int n = 1; n <= 4; n++) {
                    CohereBench x = withProcessors(was);
                    due("processors(" + n + ")", x.processors(n), was);
                    due("the home", x.end(n, 1), 1);
                    due("the same again", x.processors(n), n);
                }
            }
        });
        sentence(3, "A KIND is ORDERED (0) or LOOSE (1) from now: what it was.", () -> {
            for (int kind = 0; kind < 16; kind++) {
                CohereBench x = new CohereBench();
                due("net(" + kind + ", 0)", x.net(kind, 0), 0);
                due("net(" + kind + ", 1)", x.net(kind, 1), 0);
                due("net(" + kind + ", 1)", x.net(kind, 1), 1);
                for (int other = 0; other < 16; other++) {
                    due("net(" + other + ", 0)", x.net(other, 0), other == kind ? 1 : 0);
                }
                due("net(" + kind + ", 0)", x.net(kind, 0), 0);
            }
        });
        sentence(4, "The RIGHT of a cache's state: what it was.", () -> {
            for (int state = 0; state < 16; state++) {
                CohereBench x = new CohereBench();
                due("right(" + state + ", 2)", x.right(state, 2), 0);
                due("right(" + state + ", 1)", x.right(state, 1), 2);
                for (int other = 0; other < 16; other++) {
                    due("right(" + other + ", 0)", x.right(other, 0), other == state ? 1 : 0);
                }
            }
        });
        rows();
    }

    private static void newObject() {
        CohereBench x = new CohereBench();
        for (int i = 0; i < 2; i++) {
            due("rows", x.rows(i), 0);
            due("found", x.found(i, 0), -1);
        }
        due("steps()", x.steps(), 0);
        due("reset()", x.reset(), 0);
        due("end(1, 0)", x.end(1, 0), 0);
        due("the home", x.end(2, 1), 1);
        due("end(3, 0)", x.end(3, 0), -1);
        due("walked(0)", x.walked(0), 0);
        due("bad(0, 0)", x.bad(0, 0), -1);
        due("far(0)", x.far(0), -1);
        due("way(0, 0)", x.way(0, 0), -1);
        due("go(0)", x.go(0), -1);
        due("number()", x.number(), -1);
        due("processors(2)", x.processors(2), 2);
    }

    private static void rows() {
        sentence(5, "A row of the table (side 0 caches, 1 home) becomes the n (0 .. 8) ACTS that the highest bytes "
            + "of a, then of b, tell (the upper byte of a first): 1 if there was one, else 0.", () -> {
            CohereBench x = withProcessors(1);
            due("row of no acts", x.row(where(CACHE, 0, EVICT, 0), 0x90909090, 0x90909090), 0);
            due("no acts, no WAIT", x.steps(), 1);
            for (int n = 1; n <= 8; n++) {
                // Behind the n acts there are nothing but WAITS.
                long both = 0x1111111111111111L << 64 - 8 * n | (n < 8 ? 0x9090909090909090L >>> 8 * n : 0);
                due("row", x.row(where(CACHE, 0, EVICT, n), (int) (both >> 32), (int) both), 1);
                due("steps() of " + n, x.steps(), 1);
                long waiting = 0x1111111111111111L & ~(255L << 64 - 8 * n) | 0x90L << 64 - 8 * n;
                due("row", x.row(where(CACHE, 0, EVICT, n), (int) (waiting >> 32), (int) waiting), 1);
                due("steps() with a WAIT as the last of " + n, x.steps(), 0);
            }
        });
        sentence(5, "side, state, event and n come as one number: ((side * 16 + state) * 64 + event) * 16 + n.", () -> {
            everyPlace(CACHE, CACHE_EVENTS);
            everyPlace(HOME, HOME_EVENTS);
        });
        sentence(6, "A row goes: 1; 0 if there was none. where as in row() (n does not count).", () -> {
            for (int n = 0; n < 16; n++) {
                CohereBench x = withProcessors(1);
                put(x, CACHE, 0, EVICT, 0x11);
                put(x, HOME, 15, 31, 0x90);
                due("tear", x.tear(where(CACHE, 0, EVICT, n)), 1);
                due("tear again", x.tear(where(CACHE, 0, EVICT, n)), 0);
                due("no step any more", x.steps(), 0);
                due("the home's is there", x.tear(where(HOME, 15, 31, n)), 1);
                due("rows(1)", x.rows(1), 0);
                due("row where one was", put(x, CACHE, 0, EVICT, 0x11), 0);
            }
        });
        sentence(7, "How many rows a side has.", () -> {
            CohereBench x = new CohereBench();
            put(x, CACHE, 15, 18);
            due("rows(0)", x.rows(0), 1);
            due("rows(1)", x.rows(1), 0);
            put(x, HOME, 0, 0);
            put(x, CACHE, 15, 18, 0x11);
            due("rows(0): one that became another", x.rows(0), 1);
            due("rows(1)", x.rows(1), 1);
            x.tear(where(CACHE, 15, 18, 0));
            x.tear(where(CACHE, 15, 18, 0));
            due("rows(0): none", x.rows(0), 0);
            due("rows(1)", x.rows(1), 1);
        });
    }

    /** As many rows as an object's calls can write, each of them once, the last ones asked for. */
    private static void everyPlace(int side, int events) {
        CohereBench x = new CohereBench();
        int calls = 0;
        int rows = 0;
        for (int s = 15; s >= 0; s--) {
            for (int e = events - 1; e >= 0 && calls < 510; e--) {
                due("row of state " + s + ", event " + e, put(x, side, s, e), 0);
                calls++;
                rows++;
            }
        }
        due("rows(" + side + ")", x.rows(side), rows);
        due("rows of the other side", x.rows(1 - side), 0);
    }
}
