import java.util.Arrays;

/** The promises one by one, with answers worked out by hand from the document. */
public final class PromiseTest extends Desk {
    private static final int[] NO_SUCH = {-1, Integer.MIN_VALUE, Integer.MAX_VALUE};

    private static void dueLetters(int promise, CohereBench x, String want) {
        due(promise, "the letters " + letters(x) + " against " + want, letters(x).equals(want) ? 1 : 0, 1);
    }

    public static void main(String[] args) {
        newObject();
        processors();
        net();
        rights();
        rowsOfTheTable();
        actsInOrder();
        tears();
        changesBeginAnew();
        stepsInOrder();
        orderedAndLoose();
        waits();
        actsOfCaches();
        actsOfHome();
        homeEvents();
        stores();
        badSteps();
        badStates();
        nows();
        walks();
        walkSpent();
        walkBads();
        stuckAndLost();
        sameness();
        goAndNumber();
        usedRows();
        finish();
    }

    private static void newObject() {
        CohereBench x = new CohereBench();
        due(1, "NONE", CohereBench.NONE, -1);
        due(1, "rows(0)", x.rows(0), 0);
        due(1, "rows(1)", x.rows(1), 0);
        due(1, "steps()", x.steps(), 0);
        due(1, "number()", x.number(), -1);
        due(1, "go(0)", x.go(0), -1);
        due(1, "far(0)", x.far(0), -1);
        due(1, "way(0, 0)", x.way(0, 0), -1);
        due(1, "found(0, 0)", x.found(0, 0), -1);
        due(1, "found(1, 0)", x.found(1, 0), -1);
        due(1, "bad(0, 0)", x.bad(0, 0), -1);
        for (int what = 0; what < 8; what++) {
            due(1, "walked(" + what + ")", x.walked(what), 0);
        }
        for (int c = 0; c < 3; c++) {
            due(12, "end(" + c + ", 0)", x.end(c, 0), 0);
            due(12, "end(" + c + ", 1)", x.end(c, 1), c == 2 ? 1 : 0);
            due(12, "end(" + c + ", 2)", x.end(c, 2), 0);
        }
        due(12, "end(3, 0)", x.end(3, 0), -1);
        due(12, "end(0, 3)", x.end(0, 3), -1);
        due(12, "end(2, 3)", x.end(2, 3), -1);
        for (int no : NO_SUCH) {
            due(12, "end(no, 0)", x.end(no, 0), -1);
            due(12, "end(0, no)", x.end(0, no), -1);
        }
        due(1, "processors(2)", x.processors(2), 2);
    }

    private static void processors() {
        CohereBench x = new CohereBench();
        for (int no : new int[] {0, 5, -1, Integer.MIN_VALUE, Integer.MAX_VALUE}) {
            due(2, "processors(" + no + ")", x.processors(no), -1);
        }
        due(2, "processors(4)", x.processors(4), 2);
        due(2, "end(4, 1)", x.end(4, 1), 1);
        due(2, "end(2, 1)", x.end(2, 1), 0);
        due(2, "end(5, 0)", x.end(5, 0), -1);
        due(2, "processors(1)", x.processors(1), 4);
        due(2, "end(1, 1)", x.end(1, 1), 1);
        due(2, "end(2, 1)", x.end(2, 1), -1);
        due(2, "processors(3)", x.processors(3), 1);
    }

    private static void net() {
        CohereBench x = new CohereBench();
        for (int k = 0; k < 16; k++) {
            due(3, "net(" + k + ", 1)", x.net(k, 1), 0);
            due(3, "net(" + k + ", 1)", x.net(k, 1), 1);
        }
        due(3, "net(15, 0)", x.net(15, 0), 1);
        due(3, "net(15, 0)", x.net(15, 0), 0);
        due(3, "net(16, 0)", x.net(16, 0), -1);
        due(3, "net(0, 2)", x.net(0, 2), -1);
        for (int no : NO_SUCH) {
            due(3, "net(no, 0)", x.net(no, 0), -1);
            due(3, "net(0, no)", x.net(0, no), -1);
        }
        due(3, "net(0, 1)", x.net(0, 1), 1);
    }

    private static void rights() {
        CohereBench x = new CohereBench();
        due(4, "right(15, 2)", x.right(15, 2), 0);
        due(4, "right(15, 1)", x.right(15, 1), 2);
        due(4, "right(15, 0)", x.right(15, 0), 1);
        due(4, "right(16, 0)", x.right(16, 0), -1);
        due(4, "right(0, 3)", x.right(0, 3), -1);
        for (int no : NO_SUCH) {
            due(4, "right(no, 0)", x.right(no, 0), -1);
            due(4, "right(0, no)", x.right(0, no), -1);
        }
        due(4, "right(0, 0)", x.right(0, 0), 0);
    }

    private static void rowsOfTheTable() {
        CohereBench x = new CohereBench();
        due(5, "row of no acts", x.row(where(CACHE, 0, LOAD, 0), -1, -1), 0);
        due(5, "the same again", x.row(where(CACHE, 0, LOAD, 8), 0, 0), 1);
        due(5, "9 acts", x.row(where(CACHE, 0, LOAD, 9), 0, 0), -1);
        due(5, "15 acts", x.row(where(CACHE, 0, LOAD, 15), 0, 0), -1);
        due(5, "event 18 of a cache", x.row(where(CACHE, 15, 18, 0), 0, 0), 0);
        due(5, "event 19 of a cache", x.row(where(CACHE, 15, 19, 0), 0, 0), -1);
        due(5, "event 63 of a cache", x.row(where(CACHE, 15, 63, 0), 0, 0), -1);
        due(5, "event 31 of the home", x.row(where(HOME, 15, 31, 0), 0, 0), 0);
        due(5, "event 32 of the home", x.row(where(HOME, 15, 32, 0), 0, 0), -1);
        due(5, "side 2", x.row(where(2, 0, 0, 0), 0, 0), -1);
        for (int no : NO_SUCH) {
            due(5, "row(no, 0, 0)", x.row(no, 0, 0), -1);
            due(6, "tear(no)", x.tear(no), -1);
            due(7, "rows(no)", x.rows(no), -1);
            due(23, "used(no)", x.used(no), -1);
        }
        due(7, "rows(0)", x.rows(0), 2);
        due(7, "rows(1)", x.rows(1), 1);
        due(7, "rows(2)", x.rows(2), -1);
    }

    private static void actsInOrder() {
        // Each act makes the cache's state its own number: the last one of n stays.
        for (int n = 0; n <= 8; n++) {
            CohereBench x = new CohereBench();
            x.row(where(CACHE, 0, EVICT, n), 0x11121314, 0x15161718);
            due(5, "choose(0) of " + n + " acts", x.choose(0), 0);
            due(5, "end(0, 0) behind " + n + " acts", x.end(0, 0), n);
        }
        CohereBench x = new CohereBench();
        x.row(where(CACHE, 0, EVICT, 2), 0x11F21900, 0x1A000000);
        x.choose(0);
        due(5, "a row that is shorter than its bytes", x.end(0, 0), 1);
    }

    private static void tears() {
        CohereBench x = new CohereBench();
        put(x, CACHE, 3, kind(2), 0x11);
        put(x, HOME, 3, 4, 0x11);
        due(6, "tear of none", x.tear(where(CACHE, 0, LOAD, 0)), 0);
        due(6, "tear, n does not count", x.tear(where(CACHE, 3, kind(2), 15)), 1);
        due(6, "tear again", x.tear(where(CACHE, 3, kind(2), 1)), 0);
        due(6, "event 19 of a cache", x.tear(where(CACHE, 3, 19, 0)), -1);
        due(6, "event 32 of the home", x.tear(where(HOME, 3, 32, 0)), -1);
        due(6, "side 2", x.tear(where(2, 3, 0, 0)), -1);
        due(7, "rows(0)", x.rows(0), 0);
        due(7, "rows(1)", x.rows(1), 1);
        due(6, "tear of the home's", x.tear(where(HOME, 3, 4, 9)), 1);
        due(7, "rows(1)", x.rows(1), 0);
        due(5, "row where one was torn", put(x, CACHE, 3, kind(2)), 0);
    }

    /** An object whose run has left THE FIRST and whose walk holds. */
    private static CohereBench underWay() {
        CohereBench x = new CohereBench();
        put(x, CACHE, 0, LOAD, 0x11);
        x.walk(100);
        x.choose(0);
        due(22, "number()", x.number(), 1);
        return x;
    }

    private static void dueAnew(int promise, CohereBench x, boolean anew) {
        due(promise, "the cache's state", x.end(0, 0), anew ? 0 : 1);
        due(promise, "number()", x.number(), anew ? -1 : 1);
        due(promise, "walked(0)", x.walked(0), 4);
        due(promise, "far(3)", x.far(3), 2);
        due(promise, "way(3, 1)", x.way(3, 1), 0);
        due(promise, "go(0)", x.go(0), anew ? -1 : 2);
    }

    private static void changesBeginAnew() {
        CohereBench x = underWay();
        x.processors(2);
        dueAnew(2, x, true);
        x = underWay();
        x.net(4, 0);
        dueAnew(3, x, true);
        x = underWay();
        x.right(9, 0);
        dueAnew(4, x, true);
        x = underWay();
        put(x, HOME, 9, 9);
        dueAnew(5, x, true);
        x = underWay();
        put(x, HOME, 9, 9);
        x.walk(100);
        x.choose(0);
        x.tear(where(HOME, 9, 9, 0));
        dueAnew(6, x, true);

        x = underWay();
        x.processors(5);
        x.net(16, 0);
        x.net(0, 2);
        x.right(0, 3);
        x.right(-1, 0);
        x.row(where(CACHE, 0, LOAD, 9), 0, 0);
        x.row(-1, 0, 0);
        x.tear(-1);
        x.walk(0);
        x.walk(4001);
        x.go(4);
        x.go(-1);
        x.choose(2);
        dueAnew(21, x, false);

        tearOfNothingBeginsAnew();
    }

    /** Only what is answered NONE is refused; a tear() that answers 0 begins the run anew like any other change. */
    private static void tearOfNothingBeginsAnew() {
        int[] empty = {where(HOME, 9, 9, 0), where(HOME, 15, 31, 15), where(CACHE, 0, STORE, 0), where(CACHE, 15, 18, 9)};
        for (int where : empty) {
            CohereBench x = underWay();
            due(6, "tear of none", x.tear(where), 0);
            dueAnew(6, x, true);
            due(7, "rows(0)", x.rows(0), 1);
            due(7, "rows(1)", x.rows(1), 0);
            due(15, "walk(100)", x.walk(100), 4);
            due(22, "number() behind a new walk", x.number(), 0);
            due(21, "go(3) behind a new walk", x.go(3), 0);
            due(22, "number()", x.number(), 3);
        }
        int[] refused = {-1, where(CACHE, 0, 19, 0), where(HOME, 0, 32, 0), where(2, 0, 0, 0)};
        for (int where : refused) {
            CohereBench x = underWay();
            due(6, "tear, refused", x.tear(where), -1);
            dueAnew(6, x, false);
        }
    }

    private static void stepsInOrder() {
        CohereBench x = new CohereBench();
        put(x, CACHE, 0, LOAD, 0x25);
        put(x, CACHE, 0, STORE, 0x26);
        put(x, CACHE, 0, EVICT, 0x27);
        due(9, "steps()", x.steps(), 6);
        for (int i = 0; i < 6; i++) {
            due(10, "step(" + i + ", 0)", x.step(i, 0), i / 3);
            due(10, "step(" + i + ", 1)", x.step(i, 1), i % 3);
            due(10, "step(" + i + ", 2)", x.step(i, 2), -1);
        }
        due(10, "step(6, 0)", x.step(6, 0), -1);
        due(10, "step(0, 3)", x.step(0, 3), -1);
        for (int no : NO_SUCH) {
            due(10, "step(no, 0)", x.step(no, 0), -1);
            due(10, "step(0, no)", x.step(0, no), -1);
            due(11, "choose(no)", x.choose(no), -1);
        }
        due(11, "choose(6)", x.choose(6), -1);
        due(11, "choose(5)", x.choose(5), 0);
        due(12, "an evict wants nothing", x.end(1, 2), 0);
        due(9, "steps()", x.steps(), 7);
        due(10, "step(6, 0)", x.step(6, 0), 2);
        due(10, "step(6, 1)", x.step(6, 1), 3 + 7);
        due(10, "step(6, 2)", x.step(6, 2), 1);
        due(11, "choose(1)", x.choose(1), 0);
        due(12, "a store is wanted", x.end(0, 2), 2);
        due(9, "steps()", x.steps(), 5);
        due(10, "step(0, 0)", x.step(0, 0), 1);
        due(10, "step(3, 2)", x.step(3, 2), 0);
        due(11, "choose(0)", x.choose(0), 0);
        due(12, "a load is wanted", x.end(1, 2), 1);
        due(9, "steps()", x.steps(), 2);
        due(8, "reset()", x.reset(), 6);
        due(8, "letters are gone", x.now(0), 0);
        due(8, "nothing is wanted", x.end(0, 2), 0);
    }

    private static void orderedAndLoose() {
        CohereBench x = new CohereBench();
        x.net(4, 1);
        x.net(3, 1);
        put(x, CACHE, 0, EVICT, 0x29, 0x24, 0x22, 0x23, 0x11);
        put(x, HOME, 0, 4);
        put(x, HOME, 0, 8);
        put(x, HOME, 0, 18);
        due(11, "choose(1)", x.choose(1), 0);
        dueLetters(13, x, "91210 21210 31210 41210");
        due(9, "steps(): the second ORDERED one can't come", x.steps(), 4);
        due(10, "step(1, 1)", x.step(1, 1), 3 + 9);
        due(10, "step(2, 1)", x.step(2, 1), 3 + 3);
        due(10, "step(3, 1)", x.step(3, 1), 3 + 4);
        due(11, "choose(3)", x.choose(3), 0);
        due(11, "choose(1)", x.choose(1), 0);
        due(10, "step(1, 1)", x.step(1, 1), 3 + 2);
        due(11, "choose(0)", x.choose(0), 0);
        dueLetters(13, x, "90200 20200 30200 40200 21210 31210");
        due(13, "letter(6, 0)", x.letter(6, 0), -1);
        due(13, "letter(0, 5)", x.letter(0, 5), -1);
        for (int no : NO_SUCH) {
            due(13, "letter(no, 0)", x.letter(no, 0), -1);
            due(13, "letter(0, no)", x.letter(0, no), -1);
        }
        looseByDataAndFor();
    }

    private static void looseByDataAndFor() {
        CohereBench x = new CohereBench();
        x.net(1, 1);
        // FRESH by a store, then one with DATA is sent ahead of one without.
        put(x, CACHE, 0, STORE, 0x80, 0x31, 0x21, 0x30, 0x20);
        x.choose(0);
        dueLetters(13, x, "00201 00200 10200 10201");

        x = new CohereBench();
        x.processors(3);
        x.net(7, 1);
        // The home tells the holder 0 of a letter FOR 2, then of one FOR 1: by FOR, 1 stands first.
        put(x, CACHE, 0, EVICT, 0x21);
        put(x, CACHE, 0, LOAD, 0x22);
        put(x, HOME, 0, 2, 0x50);
        put(x, HOME, 0, 5, 0x47);
        x.choose(1);
        x.choose(x.steps() - 1);
        x.choose(4);
        x.choose(x.steps() - 1);
        dueLetters(13, x, "73020");
        x.choose(2);
        x.choose(2);
        dueLetters(13, x, "73010 73020");
    }

    private static void waits() {
        CohereBench x = new CohereBench();
        put(x, CACHE, 0, LOAD, 0x11, 0x9F);
        due(9, "a row with WAIT", x.steps(), 0);
        put(x, CACHE, 0, LOAD, 0x11, 0x22, 0x33);
        due(9, "a row without one", x.steps(), 2);
        x.row(where(CACHE, 0, LOAD, 1), 0x11900000, 0);
        due(9, "a WAIT behind the row's end", x.steps(), 2);
        x.row(where(CACHE, 0, LOAD, 5), 0x11222324, 0x90000000);
        due(9, "a WAIT as the fifth act", x.steps(), 0);
        put(x, CACHE, 0, EVICT, 0x23);
        put(x, HOME, 0, 6, 0x90);
        x.choose(0);
        due(9, "the letter waits", x.steps(), 2);
        x.tear(where(HOME, 0, 6, 0));
        x.choose(0);
        due(9, "no row is no WAIT", x.steps(), 3);
        due(11, "choose(2)", x.choose(2), 1);
        // A WAIT makes the ORDERED ones behind it wait, too; a LOOSE one overtakes.
        x = new CohereBench();
        put(x, CACHE, 0, EVICT, 0x21, 0x22, 0x23, 0x11);
        x.net(3, 1);
        put(x, HOME, 0, 2, 0x90);
        x.choose(0);
        due(9, "steps()", x.steps(), 2);
        due(10, "step(1, 1)", x.step(1, 1), 3 + 3);
    }

    private static void actsOfCaches() {
        CohereBench x = new CohereBench();
        put(x, CACHE, 0, LOAD, 0x1A, 0x21, 0x31, 0x42, 0x52, 0x60);
        x.choose(1);
        due(11, "OP 1", x.end(1, 0), 10);
        due(11, "OP 6 of a LOAD", x.end(1, 1), 0);
        due(11, "WANTS", x.end(1, 2), 1);
        dueLetters(11, x, "21110 21110 11210 11210");

        x = new CohereBench();
        put(x, CACHE, 0, STORE, 0x8A, 0x21, 0x3F, 0x42, 0x5E);
        x.choose(1);
        due(11, "OP 8", x.end(1, 1), 1);
        due(11, "the home's DATA behind a store", x.end(2, 1), 0);
        due(11, "WANTS behind a store", x.end(1, 2), 0);
        dueLetters(11, x, "21110 141111 11210 151211");
        // OP 6 of an own event: the letter at hand has STALE DATA.
        put(x, CACHE, 0, STORE, 0x80, 0x60);
        x.choose(0);
        due(11, "OP 6 behind OP 8", x.end(0, 1), 0);

        x = new CohereBench();
        put(x, CACHE, 0, EVICT, 0x00, 0xA1, 0xB2, 0xC3, 0xD4, 0xE5, 0xF6, 0x07);
        due(11, "other OPS", x.choose(0), 0);
        due(11, "other OPS: letters", x.now(0), 0);
        due(11, "other OPS: state", x.end(0, 0), 0);
        forwarding();
    }

    /** Cache 0 is a holder; 1 asks the home, which tells 0, which sends DATA to 1. */
    private static void forwarding() {
        CohereBench x = new CohereBench();
        put(x, CACHE, 0, LOAD, 0x21);
        put(x, HOME, 0, 2, 0x32, 0x50);
        put(x, HOME, 0, 3, 0x43, 0x60);
        put(x, CACHE, 0, kind(2), 0x60, 0x70, 0x11);
        put(x, CACHE, 1, kind(3), 0x44, 0x55, 0x14);
        put(x, CACHE, 0, kind(5), 0x60, 0x70);
        put(x, CACHE, 0, kind(4));
        due(11, "choose(0)", x.choose(0), 0);
        dueLetters(13, x, "10200");
        due(11, "choose(1)", x.choose(1), 0);
        dueLetters(13, x, "22001");
        due(12, "HOLDERS", x.end(2, 2), 1);
        due(11, "choose(1)", x.choose(1), 0);
        due(12, "DATA come", x.end(0, 1), 1);
        due(12, "a load is done", x.end(0, 2), 0);
        due(11, "choose(0)", x.choose(0), 0);
        due(11, "choose(0)", x.choose(0), 0);
        dueLetters(13, x, "32010");
        due(11, "choose(0)", x.choose(0), 0);
        dueLetters(13, x, "40110 50111");
        due(12, "end(0, 0)", x.end(0, 0), 4);
        due(9, "steps()", x.steps(), 1);
        due(11, "choose(0)", x.choose(0), 0);
        due(11, "choose(0)", x.choose(0), 0);
        due(12, "end(1, 1)", x.end(1, 1), 1);
        due(14, "now(2)", x.now(2), 1);
    }

    private static void actsOfHome() {
        CohereBench x = new CohereBench();
        x.processors(4);
        put(x, CACHE, 0, EVICT, 0x20);
        put(x, CACHE, 0, LOAD, 0x21);
        put(x, CACHE, 0, STORE, 0x80, 0x32, 0x14);
        for (int other = 0; other < 2; other++) {
            put(x, HOME, 0, other, 0x50);
            put(x, HOME, 0, 2 + other, 0x1C, 0x26, 0x37, 0x48, 0x60, 0x90 - 0x90);
            put(x, HOME, 0, 4 + other, 0x80, 0x70, 0x36);
        }
        for (int p = 0; p < 4; p++) {
            x.choose(3 * p + 2);
            x.choose(12);
        }
        due(12, "HOLDERS", x.end(4, 2), 15);
        x.choose(6);
        x.choose(9);
        due(12, "OP 1", x.end(4, 0), 12);
        due(12, "OP 6", x.end(4, 2), 11);
        dueLetters(11, x, "84020 84120 64220 74221 84320");

        due(8, "reset()", x.reset(), 12);
        x.choose(11);
        x.choose(12);
        x.choose(1);
        due(12, "the home's DATA", x.end(4, 1), 0);
        dueLetters(11, x, "20401");
        x.choose(9);
        due(12, "OP 8", x.end(4, 1), 1);
        due(12, "OP 7", x.end(4, 2), 0);
        dueLetters(11, x, "64001");
    }

    private static void homeEvents() {
        CohereBench x = new CohereBench();
        put(x, CACHE, 0, EVICT, 0x2F);
        put(x, HOME, 0, 30, 0x50, 0x11);
        put(x, HOME, 1, 30, 0x12);
        put(x, HOME, 1, 31, 0x13);
        x.choose(0);
        x.choose(2);
        due(11, "no holder: event 2 k", x.end(2, 0), 1);
        x.choose(0);
        x.choose(2);
        due(11, "itself alone a holder: event 2 k", x.end(2, 0), 2);
        x.reset();
        x.choose(0);
        x.choose(2);
        x.choose(1);
        due(10, "the home's EVENT is told by KIND", x.step(2, 1), 18);
        x.choose(2);
        due(11, "another one a holder: event 2 k + 1", x.end(2, 0), 3);
    }

    private static void stores() {
        CohereBench x = new CohereBench();
        put(x, CACHE, 0, LOAD, 0x21);
        put(x, CACHE, 0, STORE, 0x80);
        put(x, HOME, 0, 2, 0x32, 0x32);
        put(x, CACHE, 0, kind(2), 0x60, 0x13, 0x70);
        put(x, CACHE, 3, kind(2), 0x80, 0x60);
        x.choose(0);
        x.choose(2);
        x.choose(2);
        due(12, "end(0, 1)", x.end(0, 1), 1);
        dueLetters(13, x, "22001");
        due(11, "a store by the other one", x.choose(1), 0);
        due(12, "the cache's DATA", x.end(0, 1), 0);
        due(12, "the home's DATA", x.end(2, 1), 0);
        due(12, "its own DATA", x.end(1, 1), 1);
        dueLetters(13, x, "22000");
        x.reset();
        x.choose(0);
        x.choose(2);
        x.choose(2);
        due(11, "a store, then the letter's DATA", x.choose(2), 0);
        due(12, "the letter at hand was STALE by then", x.end(0, 1), 0);
    }

    private static void badSteps() {
        CohereBench x = new CohereBench();
        put(x, CACHE, 0, LOAD, 0x11, 0x70);
        due(11, "a load of STALE DATA", x.choose(0), 2);
        due(11, "the run stays: state", x.end(0, 0), 0);
        due(11, "the run stays: WANTS", x.end(0, 2), 0);
        put(x, CACHE, 0, LOAD, 0x80, 0x70);
        due(11, "a load of FRESH DATA", x.choose(0), 0);
        due(12, "it WANTS nothing", x.end(0, 2), 0);

        x = new CohereBench();
        put(x, CACHE, 0, EVICT, 0x21, 0x11);
        x.choose(0);
        due(11, "no row for the letter", x.choose(1), 1);
        dueLetters(11, x, "10200");

        x = new CohereBench();
        put(x, CACHE, 0, LOAD, 0x21, 0x21, 0x21, 0x21, 0x21, 0x21, 0x21, 0x21);
        put(x, CACHE, 0, STORE, 0x21, 0x70);
        put(x, CACHE, 0, EVICT, 0x70, 0x21);
        put(x, HOME, 0, 2, 0x23);
        due(11, "8 letters", x.choose(0), 0);
        due(11, "a ninth, ahead of a STALE load", x.choose(1), 3);
        due(11, "a STALE load, ahead of a ninth", x.choose(2), 2);
        due(14, "now(0)", x.now(0), 8);
        due(11, "one comes, one goes", x.choose(3), 0);
        due(14, "now(0)", x.now(0), 8);
        put(x, HOME, 0, 2, 0x23, 0x23);
        x.choose(0);
        due(11, "one comes, two go", x.choose(3), 3);
        due(14, "now(0)", x.now(0), 8);
    }

    private static void badStates() {
        CohereBench x = new CohereBench();
        put(x, CACHE, 0, EVICT, 0x80, 0x11);
        put(x, CACHE, 0, LOAD, 0x12);
        x.right(1, 2);
        x.right(2, 1);
        due(14, "now(1)", x.now(1), 0);
        x.choose(1);
        due(14, "a writer alone", x.now(1), 0);
        x.choose(0);
        due(14, "a writer and a reader", x.now(1), 4);
        x.reset();
        x.choose(0);
        due(14, "a STALE reader", x.now(1), 5);
        x.choose(0);
        due(14, "two STALE readers", x.now(1), 5);
        x.reset();
        x.choose(1);
        x.choose(1);
        due(14, "two writers", x.now(1), 4);
        x.right(0, 1);
        due(14, "THE FIRST", x.now(1), 5);
        x.right(0, 2);
        due(14, "THE FIRST", x.now(1), 4);
        x.processors(1);
        due(14, "THE FIRST of one", x.now(1), 5);
    }

    private static void nows() {
        CohereBench x = new CohereBench();
        due(14, "QUIET", x.now(2), 1);
        due(14, "no steps, but QUIET", x.now(3), 0);
        due(14, "now(4)", x.now(4), -1);
        for (int no : NO_SUCH) {
            due(14, "now(no)", x.now(no), -1);
        }
        x.processors(1);
        put(x, CACHE, 0, LOAD, 0x11);
        x.choose(0);
        due(14, "it WANTS: not QUIET", x.now(2), 0);
        due(14, "STUCK", x.now(3), 1);
        put(x, CACHE, 0, EVICT, 0x21);
        x.choose(1);
        due(14, "a letter: not QUIET", x.now(2), 0);
        due(14, "not STUCK", x.now(3), 0);
        due(14, "now(0)", x.now(0), 1);
    }

    private static void walks() {
        // Each cache counts to 3 by evicts: 4 * 4 states, found by their sums.
        CohereBench x = new CohereBench();
        for (int s = 0; s < 3; s++) {
            put(x, CACHE, s, EVICT, 0x11 + s);
        }
        due(15, "walk(4000)", x.walk(4000), 16);
        due(16, "states", x.walked(0), 16);
        due(16, "tried", x.walked(1), 24);
        due(16, "BADS", x.walked(2), 0);
        due(16, "STUCK", x.walked(3), 0);
        due(16, "LOST", x.walked(4), 0);
        due(16, "farthest", x.walked(5), 6);
        due(16, "SPENT", x.walked(6), 0);
        due(16, "QUIET", x.walked(7), 16);
        due(16, "walked(8)", x.walked(8), -1);
        for (int no : NO_SUCH) {
            due(16, "walked(no)", x.walked(no), -1);
            due(15, "walk(no)", x.walk(no), -1);
            due(19, "far(no)", x.far(no), -1);
            due(20, "way(no, 0)", x.way(no, 0), -1);
            due(20, "way(15, no)", x.way(15, no), -1);
            due(21, "go(no)", x.go(no), -1);
        }
        due(15, "walk(0)", x.walk(0), -1);
        due(15, "walk(4001)", x.walk(4001), -1);
        due(15, "walk(16)", x.walk(16), 16);
        int[] far = {0, 1, 1, 2, 2, 2, 3, 3, 3, 3, 4, 4, 4, 5, 5, 6};
        for (int n = 0; n < 16; n++) {
            due(19, "far(" + n + ")", x.far(n), far[n]);
        }
        due(19, "far(16)", x.far(16), -1);
        due(20, "way(16, 0)", x.way(16, 0), -1);
        due(20, "way(0, 0)", x.way(0, 0), -1);
        due(20, "way(2, 0)", x.way(2, 0), 1);
        // By the least steps first: cache 0 to its end, then the other one, which has the only step.
        int[] way = {0, 0, 0, 0, 0, 0};
        for (int k = 0; k < 6; k++) {
            due(20, "way(15, " + k + ")", x.way(15, k), way[k]);
        }
        due(20, "way(15, 6)", x.way(15, 6), -1);
        due(15, "the run stays", x.end(0, 0), 0);
    }

    private static void walkSpent() {
        CohereBench x = new CohereBench();
        for (int s = 0; s < 3; s++) {
            put(x, CACHE, s, EVICT, 0x11 + s);
        }
        due(15, "walk(15)", x.walk(15), -16);
        due(16, "states", x.walked(0), 15);
        due(16, "tried", x.walked(1), 24);
        due(16, "SPENT", x.walked(6), 1);
        due(16, "farthest", x.walked(5), 5);
        due(15, "walk(1)", x.walk(1), -2);
        due(16, "tried", x.walked(1), 2);
        due(16, "farthest", x.walked(5), 0);
        due(19, "far(1)", x.far(1), -1);
        due(15, "walk(16)", x.walk(16), 16);
        due(16, "SPENT", x.walked(6), 0);
        // LOST is told by steps within the walk alone: the second state gets back by a third one.
        x = new CohereBench();
        x.processors(1);
        put(x, CACHE, 0, LOAD, 0x21);
        put(x, HOME, 0, 2, 0x22);
        put(x, CACHE, 0, kind(2), 0x80);
        due(15, "walk(4000)", x.walk(4000), 6);
        due(16, "LOST", x.walked(4), 0);
        due(15, "walk(2)", x.walk(2), -3);
        due(16, "LOST", x.walked(4), 1);
        due(18, "found(1, 0)", x.found(1, 0), 1);
        due(18, "found(1, 1)", x.found(1, 1), -1);
        due(18, "found(0, 0)", x.found(0, 0), -1);
    }

    private static void walkBads() {
        CohereBench x = new CohereBench();
        x.right(0, 1);
        put(x, CACHE, 0, LOAD, 0x70);
        put(x, CACHE, 0, EVICT, 0x11);
        x.processors(1);
        due(15, "walk(9)", x.walk(9), 2);
        due(16, "BADS", x.walked(2), 2);
        due(17, "bad(0, 0)", x.bad(0, 0), 5);
        due(17, "bad(0, 1)", x.bad(0, 1), 0);
        due(17, "bad(0, 2)", x.bad(0, 2), -1);
        due(17, "bad(1, 0)", x.bad(1, 0), 2);
        due(17, "bad(1, 1)", x.bad(1, 1), 0);
        due(17, "bad(1, 2)", x.bad(1, 2), 0);
        due(17, "bad(2, 0)", x.bad(2, 0), -1);
        due(17, "bad(0, 3)", x.bad(0, 3), -1);
        for (int no : NO_SUCH) {
            due(17, "bad(no, 0)", x.bad(no, 0), -1);
            due(17, "bad(0, no)", x.bad(0, no), -1);
            due(18, "found(no, 0)", x.found(no, 0), -1);
            due(18, "found(0, no)", x.found(0, no), -1);
        }
        manyBads();
    }

    private static void manyBads() {
        // Four caches count to 3, all with a RIGHT and STALE DATA: 256 states, all of them BAD.
        CohereBench x = new CohereBench();
        x.processors(4);
        for (int s = 0; s < 4; s++) {
            x.right(s, 1);
        }
        for (int s = 0; s < 3; s++) {
            put(x, CACHE, s, EVICT, 0x11 + s);
        }
        due(15, "walk(4000)", x.walk(4000), 256);
        due(16, "BADS", x.walked(2), 256);
        due(17, "bad(199, 1)", x.bad(199, 1), 199);
        due(17, "bad(200, 1)", x.bad(200, 1), -1);
        due(15, "walk(100): one too many is no BAD", x.walk(100), -101);
        due(16, "BADS", x.walked(2), 100);
        due(17, "bad(100, 1)", x.bad(100, 1), -1);
    }

    private static void stuckAndLost() {
        // A load is never done (STUCK at once); a store bounces a letter for ever (LOST, but not STUCK).
        CohereBench x = new CohereBench();
        x.processors(1);
        put(x, CACHE, 0, LOAD, 0x11);
        put(x, CACHE, 0, STORE, 0x21);
        put(x, HOME, 0, 2, 0x22);
        put(x, CACHE, 0, kind(2), 0x21);
        due(15, "walk(50)", x.walk(50), 4);
        due(16, "STUCK", x.walked(3), 1);
        due(16, "LOST", x.walked(4), 3);
        due(16, "QUIET", x.walked(7), 1);
        due(18, "found(0, 0)", x.found(0, 0), 1);
        due(18, "found(0, 1)", x.found(0, 1), -1);
        for (int i = 0; i < 3; i++) {
            due(18, "found(1, " + i + ")", x.found(1, i), i + 1);
        }
        due(18, "found(1, 3)", x.found(1, 3), -1);
        due(18, "found(2, 0)", x.found(2, 0), -1);
        due(21, "go(1)", x.go(1), 0);
        due(14, "now(3)", x.now(3), 1);
        // BAD steps lead nowhere, but they are steps: the state is LOST, and not STUCK.
        x = new CohereBench();
        x.processors(1);
        put(x, CACHE, 0, LOAD, 0x21);
        due(15, "walk(50)", x.walk(50), 2);
        due(16, "STUCK", x.walked(3), 0);
        due(16, "LOST", x.walked(4), 1);
    }

    private static void sameness() {
        // Two letters of one cache in either order, by state: LOOSE ones are the same then, ORDERED ones not.
        for (int loose = 0; loose < 3; loose++) {
            CohereBench x = new CohereBench();
            x.processors(1);
            put(x, CACHE, 0, EVICT, 0x11, 0x21);
            put(x, CACHE, 0, LOAD, 0x12, 0x22, 0x80);
            put(x, CACHE, 1, LOAD, 0x13, 0x22, 0x80);
            put(x, CACHE, 2, EVICT, 0x13, 0x21);
            put(x, HOME, 0, 2, 0x90);
            put(x, HOME, 0, 4, 0x90);
            if (loose >= 1) {
                x.net(1, 1);
            }
            if (loose >= 2) {
                x.net(2, 1);
            }
            // An ORDERED one and a LOOSE one have no order either.
            due(15, "walk(99) with " + loose + " LOOSE", x.walk(99), loose == 0 ? 5 : 4);
        }
        // All that a state has tells it from another: here the DATA of a letter alone.
        CohereBench x = new CohereBench();
        x.processors(1);
        put(x, CACHE, 0, EVICT, 0x80, 0x11, 0x21);
        put(x, CACHE, 0, STORE, 0x80, 0x11, 0x31);
        due(15, "walk(99)", x.walk(99), 3);
        // Or the KIND, or the HOLDERS.
        x = new CohereBench();
        x.processors(1);
        put(x, CACHE, 0, EVICT, 0x11, 0x21);
        put(x, CACHE, 0, STORE, 0x80, 0x60, 0x11, 0x22);
        put(x, HOME, 0, 2, 0x50);
        put(x, HOME, 0, 4, 0x70);
        due(15, "walk(99)", x.walk(99), 5);
    }

    private static void goAndNumber() {
        CohereBench x = new CohereBench();
        put(x, CACHE, 0, LOAD, 0x21);
        put(x, HOME, 0, 2, 0x32, 0x50, 0x11);
        put(x, CACHE, 0, kind(2), 0x60, 0x70, 0x11);
        put(x, HOME, 1, 2, 0x90);
        put(x, HOME, 1, 3, 0x90);
        int states = x.walk(4000);
        int[] steps = new int[states];
        for (int n = 0; n < states; n++) {
            steps[n] = x.go(n);
            due(22, "number() at " + n, x.number(), n);
            due(9, "steps() at " + n, x.steps(), steps[n]);
            x.reset();
            for (int k = 0; k < x.far(n); k++) {
                due(20, "choose of way(" + n + ", " + k + ")", x.choose(x.way(n, k)), 0);
            }
            due(20, "number() behind the way to " + n, x.number(), n);
        }
        due(21, "steps tried", x.walked(1), Arrays.stream(steps).sum());
        due(21, "go(states)", x.go(states), -1);
        due(22, "refused: number()", x.number(), states - 1);
        due(15, "walk(1)", x.walk(1), -2);
        due(22, "not in the walk", x.number(), -1);
        due(8, "reset()", x.reset(), 2);
        due(22, "number()", x.number(), 0);
        x.right(5, 1);
        due(22, "changed: number()", x.number(), -1);
        due(21, "changed: go(0)", x.go(0), -1);
        due(19, "changed: far(0)", x.far(0), 0);
    }

    private static void usedRows() {
        CohereBench x = new CohereBench();
        put(x, CACHE, 0, LOAD, 0x21);
        put(x, CACHE, 0, STORE, 0x70);
        put(x, CACHE, 0, EVICT, 0x90);
        put(x, CACHE, 9, EVICT, 0x11);
        due(23, "no walk yet", x.used(where(CACHE, 0, LOAD, 0)), 0);
        due(23, "no such row", x.used(where(HOME, 0, 2, 0)), -1);
        x.choose(0);
        due(23, "the run does not count", x.used(where(CACHE, 0, LOAD, 0)), 0);
        x.walk(100);
        due(23, "used", x.used(where(CACHE, 0, LOAD, 15)), 1);
        due(23, "used by a BAD step", x.used(where(CACHE, 0, STORE, 0)), 1);
        due(23, "a WAIT", x.used(where(CACHE, 0, EVICT, 0)), 0);
        due(23, "never come to", x.used(where(CACHE, 9, EVICT, 0)), 0);
        due(23, "event 19", x.used(where(CACHE, 0, 19, 0)), -1);
        due(23, "event 32", x.used(where(HOME, 0, 32, 0)), -1);
        due(23, "side 2", x.used(where(2, 0, 0, 0)), -1);
        put(x, HOME, 0, 2, 0x11);
        due(23, "there was no row for the letter", x.used(where(HOME, 0, 2, 0)), 0);
        due(23, "still used", x.used(where(CACHE, 0, LOAD, 0)), 1);
        x.tear(where(CACHE, 0, LOAD, 0));
        due(23, "gone now", x.used(where(CACHE, 0, LOAD, 0)), -1);
        x.walk(100);
        put(x, CACHE, 0, LOAD, 0x21);
        due(23, "not by the latest walk", x.used(where(CACHE, 0, LOAD, 0)), 0);
    }
}
