import java.util.Arrays;

/** A bench for rules that keep caches true: tables, runs by hand, and a walk through all that can come. */
public final class CohereBench {
    public static final int NONE = -1;

    private static final int MOST_PROCESSORS = 4;
    private static final int MOST_LETTERS = 8;
    private static final int OWN_EVENTS = 3;
    private static final int MOST_STEPS = OWN_EVENTS * MOST_PROCESSORS + MOST_LETTERS;
    private static final int MOST_STATES = 4000;
    private static final int MOST_BADS = 200;
    private static final int KINDS = 16;
    private static final int STATES = 16;
    private static final int MOST_ACTS = 8;

    private static final int CACHE_SIDE = 0;
    private static final int HOME_SIDE = 1;
    private static final int SIDES = 2;
    private static final int CACHE_EVENTS = OWN_EVENTS + KINDS;
    private static final int HOME_EVENTS = 2 * KINDS;
    private static final int EVENT_ROOM = 64;
    private static final int PLACES = SIDES * STATES * EVENT_ROOM;

    private static final int LOAD = 0;
    private static final int STORE = 1;
    private static final int OP_WAIT = 9;

    private static final int READ = 1;
    private static final int WRITE = 2;

    private static final int GOOD = 0;
    private static final int BAD_NO_ROW = 1;
    private static final int BAD_STALE_LOAD = 2;
    private static final int BAD_TOO_MANY_LETTERS = 3;
    private static final int BAD_RIGHTS = 4;
    private static final int BAD_STALE_RIGHT = 5;

    private final Protocol protocol;
    private final Acting acting;
    private final Scene run;
    private final Scene trial;
    private final StepList choices;
    private final Atlas atlas;
    private boolean atlasHolds;

    public CohereBench() {
        protocol = new Protocol();
        acting = new Acting(protocol);
        run = new Scene();
        trial = new Scene();
        choices = new StepList(protocol);
        atlas = new Atlas(protocol, acting);
        atlasHolds = false;
        run.begin(protocol.home());
    }

    public int processors(int n) {
        if (n < 1 || n > MOST_PROCESSORS) {
            return NONE;
        }
        int was = protocol.setHome(n);
        beginAnew();
        return was;
    }

    public int net(int kind, int how) {
        if (kind < 0 || kind >= KINDS || how < 0 || how > 1) {
            return NONE;
        }
        int was = protocol.setLoose(kind, how);
        beginAnew();
        return was;
    }

    public int right(int state, int right) {
        if (state < 0 || state >= STATES || right < 0 || right > WRITE) {
            return NONE;
        }
        int was = protocol.setRight(state, right);
        beginAnew();
        return was;
    }

    public int row(int where, int a, int b) {
        int place = placeOf(where);
        int length = where & 15;
        if (place == NONE || length > MOST_ACTS) {
            return NONE;
        }
        int was = protocol.putRow(place, length, a, b);
        beginAnew();
        return was;
    }

    public int tear(int where) {
        int place = placeOf(where);
        if (place == NONE) {
            return NONE;
        }
        int was = protocol.dropRow(place);
        beginAnew();
        return was;
    }

    public int rows(int side) {
        if (side < 0 || side >= SIDES) {
            return NONE;
        }
        return protocol.countRows(side);
    }

    public int reset() {
        run.begin(protocol.home());
        return countChoices();
    }

    public int steps() {
        return countChoices();
    }

    public int step(int i, int what) {
        if (i < 0 || i >= countChoices()) {
            return NONE;
        }
        switch (what) {
            case 0:
                return choices.endOf(i);
            case 1:
                return choices.eventOf(i);
            case 2:
                return choices.senderOf(i);
            default:
                return NONE;
        }
    }

    public int choose(int i) {
        if (i < 0 || i >= countChoices()) {
            return NONE;
        }
        trial.copy(run);
        int how = acting.perform(trial, choices, i);
        if (how == GOOD) {
            run.copy(trial);
        }
        return how;
    }

    public int end(int c, int what) {
        int home = protocol.home();
        if (c < 0 || c > home) {
            return NONE;
        }
        switch (what) {
            case 0:
                return run.stateOf(c);
            case 1:
                return run.freshOf(c);
            case 2:
                return c == home ? run.holders() : run.wantOf(c);
            default:
                return NONE;
        }
    }

    public int letter(int i, int what) {
        if (i < 0 || i >= run.letterCount()) {
            return NONE;
        }
        int letter = run.letterAt(i);
        switch (what) {
            case 0:
                return Letter.kindOf(letter);
            case 1:
                return Letter.fromOf(letter);
            case 2:
                return Letter.toOf(letter);
            case 3:
                return Letter.forOf(letter);
            case 4:
                return Letter.freshOf(letter);
            default:
                return NONE;
        }
    }

    public int now(int what) {
        switch (what) {
            case 0:
                return run.letterCount();
            case 1:
                return protocol.badnessOf(run);
            case 2:
                return run.isQuiet() ? 1 : 0;
            case 3:
                return countChoices() == 0 && !run.isQuiet() ? 1 : 0;
            default:
                return NONE;
        }
    }

    public int walk(int most) {
        if (most < 1 || most > MOST_STATES) {
            return NONE;
        }
        atlas.begin(most);
        for (int from = 0; from < most && from < atlas.countStates(); from++) {
            atlas.visit(from);
        }
        atlas.finish();
        atlasHolds = true;
        int count = atlas.countStates();
        return atlas.isSpent() ? -count - 1 : count;
    }

    public int walked(int what) {
        return atlas.figure(what);
    }

    public int bad(int i, int what) {
        return atlas.badAt(i, what);
    }

    public int found(int how, int i) {
        switch (how) {
            case 0:
                return atlas.stuckAt(i);
            case 1:
                return atlas.lostAt(i);
            default:
                return NONE;
        }
    }

    public int far(int state) {
        return atlas.hasState(state) ? atlas.depthOf(state) : NONE;
    }

    public int way(int state, int k) {
        if (!atlas.hasState(state) || k < 0 || k >= atlas.depthOf(state)) {
            return NONE;
        }
        return atlas.stepTowards(state, k);
    }

    public int go(int state) {
        if (!atlasHolds || !atlas.hasState(state)) {
            return NONE;
        }
        atlas.load(state, run);
        return countChoices();
    }

    public int number() {
        return atlasHolds ? atlas.numberOf(run) : NONE;
    }

    public int used(int where) {
        int place = placeOf(where);
        if (place == NONE || !protocol.hasRow(place)) {
            return NONE;
        }
        return atlas.usedAt(place);
    }

    /** Every change that is not refused comes here, also one that leaves the protocol as it was. */
    private void beginAnew() {
        run.begin(protocol.home());
        atlasHolds = false;
    }

    private int countChoices() {
        choices.list(run);
        return choices.count();
    }

    /** The row's place in the table, without its number of acts; NONE if there is no such place. */
    private static int placeOf(int where) {
        if (where < 0) {
            return NONE;
        }
        int place = where >> 4;
        if (place >= PLACES) {
            return NONE;
        }
        int event = place % EVENT_ROOM;
        int events = sideOf(place) == CACHE_SIDE ? CACHE_EVENTS : HOME_EVENTS;
        return event < events ? place : NONE;
    }

    private static int sideOf(int place) {
        return place < STATES * EVENT_ROOM ? CACHE_SIDE : HOME_SIDE;
    }

    /**
     * A letter is one number, its parts laid so that rising numbers are the document's order:
     * from, to, LOOSE, KIND, FOR, DATA. The top bit keeps a letter apart from an empty slot.
     */
    private static final class Letter {
        static final int BITS = 15;
        private static final int THERE = 1 << 14;
        private static final int LANE_SHIFT = 7;
        private static final int LOOSE = 1 << LANE_SHIFT;

        private Letter() {
        }

        static int make(int kind, int loose, int from, int to, int whom, int fresh) {
            return THERE | from << 11 | to << 8 | loose << LANE_SHIFT | kind << 3 | whom << 1 | fresh;
        }

        static int kindOf(int letter) {
            return letter >> 3 & 15;
        }

        static int fromOf(int letter) {
            return letter >> 11 & 7;
        }

        static int toOf(int letter) {
            return letter >> 8 & 7;
        }

        static int forOf(int letter) {
            return letter >> 1 & 3;
        }

        static int freshOf(int letter) {
            return letter & 1;
        }

        static int staled(int letter) {
            return letter & ~1;
        }

        /** Whether both are ORDERED ones from the same end to the same one. */
        static boolean shareOrder(int one, int other) {
            return one >> LANE_SHIFT == other >> LANE_SHIFT && (one & LOOSE) == 0;
        }

        /** The greatest letter that stands ahead of a new one: an ORDERED one goes behind all it shares order with. */
        static int lastAhead(int letter) {
            return (letter & LOOSE) == 0 ? letter | LOOSE - 1 : letter;
        }
    }

    /** What the user can change: processors, kinds, rights and the table of rows. */
    private static final class Protocol {
        private int home;
        private final int[] loose;
        private final int[] rights;
        private final int[] lengths;
        private final int[] firstActs;
        private final int[] laterActs;
        private final boolean[] waits;
        private final int[] rowCounts;

        Protocol() {
            home = 2;
            loose = new int[KINDS];
            rights = new int[STATES];
            lengths = new int[PLACES];
            firstActs = new int[PLACES];
            laterActs = new int[PLACES];
            waits = new boolean[PLACES];
            rowCounts = new int[SIDES];
            Arrays.fill(lengths, NONE);
        }

        /** The home's number among the ends, which is also how many processors there are. */
        int home() {
            return home;
        }

        int setHome(int n) {
            int was = home;
            home = n;
            return was;
        }

        int looseOf(int kind) {
            return loose[kind];
        }

        int setLoose(int kind, int how) {
            int was = loose[kind];
            loose[kind] = how;
            return was;
        }

        int setRight(int state, int right) {
            int was = rights[state];
            rights[state] = right;
            return was;
        }

        boolean hasRow(int place) {
            return lengths[place] != NONE;
        }

        int lengthOf(int place) {
            return lengths[place];
        }

        boolean waitsAt(int place) {
            return waits[place];
        }

        int countRows(int side) {
            return rowCounts[side];
        }

        int putRow(int place, int length, int a, int b) {
            int was = hasRow(place) ? 1 : 0;
            rowCounts[sideOf(place)] += 1 - was;
            lengths[place] = length;
            firstActs[place] = a;
            laterActs[place] = b;
            waits[place] = hasWait(place);
            return was;
        }

        int dropRow(int place) {
            int was = hasRow(place) ? 1 : 0;
            rowCounts[sideOf(place)] -= was;
            lengths[place] = NONE;
            // A row that is not there makes no letter wait.
            waits[place] = false;
            return was;
        }

        int actOf(int place, int k) {
            int four = k < 4 ? firstActs[place] : laterActs[place];
            return four >>> 24 - 8 * (k & 3) & 255;
        }

        private boolean hasWait(int place) {
            for (int k = 0; k < lengths[place]; k++) {
                if (actOf(place, k) >> 4 == OP_WAIT) {
                    return true;
                }
            }
            return false;
        }

        int cachePlace(int state, int event) {
            return state * EVENT_ROOM + event;
        }

        int letterPlace(Scene scene, int letter) {
            int to = Letter.toOf(letter);
            int kind = Letter.kindOf(letter);
            if (to != home) {
                return cachePlace(scene.stateOf(to), OWN_EVENTS + kind);
            }
            int others = scene.holders() & ~(1 << Letter.forOf(letter));
            int event = others == 0 ? 2 * kind : 2 * kind + 1;
            return (STATES + scene.stateOf(home)) * EVENT_ROOM + event;
        }

        int badnessOf(Scene scene) {
            int writers = 0;
            int entitled = 0;
            boolean stale = false;
            for (int p = 0; p < home; p++) {
                int right = rights[scene.stateOf(p)];
                writers += right == WRITE ? 1 : 0;
                entitled += right >= READ ? 1 : 0;
                stale |= right >= READ && scene.freshOf(p) == 0;
            }
            if (writers > 0 && entitled > 1) {
                return BAD_RIGHTS;
            }
            return stale ? BAD_STALE_RIGHT : GOOD;
        }
    }

    /**
     * A state of all. The ends share one long, seven bits each (state, DATA, WANT), the HOLDERS above them;
     * the letters stand in their numbered order, so that two scenes are the same if all their numbers are.
     */
    private static final class Scene {
        private static final int END_BITS = 7;
        private static final int FRESH_BIT = 4;
        private static final int WANT_BIT = 5;
        private static final int HOLDERS_BIT = 35;
        private static final long EACH_END = 1L | 1L << 7 | 1L << 14 | 1L << 21 | 1L << 28;
        private static final long ALL_FRESH = EACH_END << FRESH_BIT;
        private static final long ALL_WANTS = EACH_END * 3 << WANT_BIT;
        private static final int HALF = MOST_LETTERS / 2;

        private long ends;
        private int count;
        private final int[] letters;

        Scene() {
            ends = 0;
            count = 0;
            letters = new int[MOST_LETTERS];
        }

        void begin(int home) {
            ends = 0;
            count = 0;
            Arrays.fill(letters, 0);
            setFresh(home, 1);
        }

        void copy(Scene other) {
            ends = other.ends;
            count = other.count;
            System.arraycopy(other.letters, 0, letters, 0, MOST_LETTERS);
        }

        int stateOf(int end) {
            return part(END_BITS * end, 15);
        }

        int freshOf(int end) {
            return part(END_BITS * end + FRESH_BIT, 1);
        }

        int wantOf(int cache) {
            return part(END_BITS * cache + WANT_BIT, 3);
        }

        int holders() {
            return part(HOLDERS_BIT, 15);
        }

        void setState(int end, int state) {
            setPart(END_BITS * end, 15, state);
        }

        void setFresh(int end, int fresh) {
            setPart(END_BITS * end + FRESH_BIT, 1, fresh);
        }

        void setWant(int cache, int want) {
            setPart(END_BITS * cache + WANT_BIT, 3, want);
        }

        void setHolders(int holders) {
            setPart(HOLDERS_BIT, 15, holders);
        }

        boolean isQuiet() {
            return count == 0 && (ends & ALL_WANTS) == 0;
        }

        int letterCount() {
            return count;
        }

        int letterAt(int i) {
            return letters[i];
        }

        /** Whether an ORDERED letter from the same end to the same one is ahead of this ORDERED one. */
        boolean isBehindAnother(int i) {
            return i > 0 && Letter.shareOrder(letters[i - 1], letters[i]);
        }

        /** Adds a letter at its place in the order; false if there are as many as there may be. */
        boolean add(int letter) {
            if (count >= MOST_LETTERS) {
                return false;
            }
            int lastAhead = Letter.lastAhead(letter);
            int at = count;
            while (at > 0 && letters[at - 1] > lastAhead) {
                letters[at] = letters[at - 1];
                at--;
            }
            letters[at] = letter;
            count++;
            return true;
        }

        int take(int i) {
            int letter = letters[i];
            count--;
            for (int k = i; k < count; k++) {
                letters[k] = letters[k + 1];
            }
            letters[count] = 0;
            return letter;
        }

        /** LOOSE letters stay in order here: those that differed in DATA alone become alike. */
        void storeAt(int cache) {
            setWant(cache, 0);
            ends &= ~ALL_FRESH;
            for (int i = 0; i < count; i++) {
                letters[i] = Letter.staled(letters[i]);
            }
            setFresh(cache, 1);
        }

        long endsWord() {
            return ends;
        }

        long lettersWord(int half) {
            long word = 0;
            for (int i = 0; i < HALF; i++) {
                word = word << Letter.BITS | letters[half * HALF + i];
            }
            return word;
        }

        void load(long endsWord, long lowWord, long highWord) {
            ends = endsWord;
            count = 0;
            loadHalf(0, lowWord);
            loadHalf(1, highWord);
        }

        private void loadHalf(int half, long word) {
            long rest = word;
            for (int i = HALF - 1; i >= 0; i--) {
                int letter = (int) rest & (1 << Letter.BITS) - 1;
                letters[half * HALF + i] = letter;
                count += letter == 0 ? 0 : 1;
                rest = rest >>> Letter.BITS;
            }
        }

        private int part(int shift, int mask) {
            return (int) (ends >>> shift) & mask;
        }

        private void setPart(int shift, int mask, int value) {
            ends = ends & ~((long) mask << shift) | (long) (value & mask) << shift;
        }
    }

    /** The STEPS that can be done in a scene, in their order. */
    private static final class StepList {
        private final Protocol protocol;
        private final int[] ends;
        private final int[] events;
        private final int[] senders;
        private final int[] letters;
        private final int[] places;
        private int count;

        StepList(Protocol protocol) {
            this.protocol = protocol;
            ends = new int[MOST_STEPS];
            events = new int[MOST_STEPS];
            senders = new int[MOST_STEPS];
            letters = new int[MOST_STEPS];
            places = new int[MOST_STEPS];
            count = 0;
        }

        int count() {
            return count;
        }

        int endOf(int i) {
            return ends[i];
        }

        int eventOf(int i) {
            return events[i];
        }

        int senderOf(int i) {
            return senders[i];
        }

        /** The number of the letter that comes; NONE for a processor's own step. */
        int letterOf(int i) {
            return letters[i];
        }

        int placeAt(int i) {
            return places[i];
        }

        void list(Scene scene) {
            count = 0;
            for (int p = 0; p < protocol.home(); p++) {
                if (scene.wantOf(p) == 0) {
                    listOwn(scene, p);
                }
            }
            for (int i = 0; i < scene.letterCount(); i++) {
                if (!scene.isBehindAnother(i)) {
                    listComing(scene, i);
                }
            }
        }

        private void listOwn(Scene scene, int p) {
            int state = scene.stateOf(p);
            for (int event = 0; event < OWN_EVENTS; event++) {
                int place = protocol.cachePlace(state, event);
                if (protocol.hasRow(place) && !protocol.waitsAt(place)) {
                    add(p, event, NONE, NONE, place);
                }
            }
        }

        private void listComing(Scene scene, int i) {
            int letter = scene.letterAt(i);
            int place = protocol.letterPlace(scene, letter);
            if (!protocol.waitsAt(place)) {
                add(Letter.toOf(letter), OWN_EVENTS + Letter.kindOf(letter), Letter.fromOf(letter), i, place);
            }
        }

        private void add(int end, int event, int sender, int letter, int place) {
            if (count >= MOST_STEPS) {
                return;
            }
            ends[count] = end;
            events[count] = event;
            senders[count] = sender;
            letters[count] = letter;
            places[count] = place;
            count++;
        }
    }

    /** Does a STEP in a scene: the letter at hand, then the row's ACTS one behind the other. */
    private static final class Acting {
        private final Protocol protocol;
        private int self;
        private int handFor;
        private int handFresh;

        Acting(Protocol protocol) {
            this.protocol = protocol;
            self = 0;
            handFor = 0;
            handFresh = 0;
        }

        /** GOOD, or how the step is BAD: then what stands in the scene is of no use. */
        int perform(Scene scene, StepList steps, int i) {
            int place = steps.placeAt(i);
            if (!protocol.hasRow(place)) {
                return BAD_NO_ROW;
            }
            takeUp(scene, steps, i);
            boolean atHome = self == protocol.home();
            int length = protocol.lengthOf(place);
            int how = GOOD;
            for (int k = 0; k < length && how == GOOD; k++) {
                int act = protocol.actOf(place, k);
                how = atHome ? homeAct(scene, act >> 4, act & 15) : cacheAct(scene, act >> 4, act & 15);
            }
            return how;
        }

        private void takeUp(Scene scene, StepList steps, int i) {
            self = steps.endOf(i);
            if (steps.letterOf(i) != NONE) {
                int letter = scene.take(steps.letterOf(i));
                handFor = Letter.forOf(letter);
                handFresh = Letter.freshOf(letter);
                return;
            }
            handFor = self;
            handFresh = 0;
            int event = steps.eventOf(i);
            if (event == LOAD || event == STORE) {
                scene.setWant(self, event == LOAD ? 1 : 2);
            }
        }

        private int cacheAct(Scene scene, int op, int argument) {
            switch (op) {
                case 1:
                    scene.setState(self, argument);
                    return GOOD;
                case 2:
                    return send(scene, argument, 1 << protocol.home(), self, 0);
                case 3:
                    return send(scene, argument, 1 << protocol.home(), self, scene.freshOf(self));
                case 4:
                    return send(scene, argument, 1 << handFor, handFor, 0);
                case 5:
                    return send(scene, argument, 1 << handFor, handFor, scene.freshOf(self));
                case 6:
                    scene.setFresh(self, handFresh);
                    return GOOD;
                case 7:
                    scene.setWant(self, 0);
                    return scene.freshOf(self) == 1 ? GOOD : BAD_STALE_LOAD;
                case 8:
                    scene.storeAt(self);
                    handFresh = 0;
                    return GOOD;
                default:
                    return GOOD;
            }
        }

        private int homeAct(Scene scene, int op, int argument) {
            switch (op) {
                case 1:
                    scene.setState(self, argument);
                    return GOOD;
                case 2:
                    return send(scene, argument, 1 << handFor, handFor, 0);
                case 3:
                    return send(scene, argument, 1 << handFor, handFor, scene.freshOf(self));
                case 4:
                    return send(scene, argument, scene.holders() & ~(1 << handFor), handFor, 0);
                case 5:
                    scene.setHolders(scene.holders() | 1 << handFor);
                    return GOOD;
                case 6:
                    scene.setHolders(scene.holders() & ~(1 << handFor));
                    return GOOD;
                case 7:
                    scene.setHolders(0);
                    return GOOD;
                case 8:
                    scene.setFresh(self, handFresh);
                    return GOOD;
                default:
                    return GOOD;
            }
        }

        /** One letter to each of the receivers, which are the sum of 2^e of each end e, the least first. */
        private int send(Scene scene, int kind, int receivers, int whom, int fresh) {
            int loose = protocol.looseOf(kind);
            for (int to = 0; to <= MOST_PROCESSORS; to++) {
                boolean receives = (receivers >> to & 1) == 1;
                if (receives && !scene.add(Letter.make(kind, loose, self, to, whom, fresh))) {
                    return BAD_TOO_MANY_LETTERS;
                }
            }
            return GOOD;
        }
    }

    /** The scenes that a walk found, by number, and a hash table from scene to number. */
    private static final class Shelf {
        private static final int SLOT_BITS = 13;
        private static final int SLOTS = 1 << SLOT_BITS;

        private final long[] ends;
        private final long[] lowLetters;
        private final long[] highLetters;
        // The number and 1, so that 0 is an empty slot.
        private final int[] slots;
        private int count;

        Shelf() {
            ends = new long[MOST_STATES];
            lowLetters = new long[MOST_STATES];
            highLetters = new long[MOST_STATES];
            slots = new int[SLOTS];
            count = 0;
        }

        void clear() {
            Arrays.fill(slots, 0);
            count = 0;
        }

        int count() {
            return count;
        }

        int find(Scene scene) {
            return slots[slotOf(scene.endsWord(), scene.lettersWord(0), scene.lettersWord(1))] - 1;
        }

        /** Keeps a scene that is not here yet; the caller has asked whether there is room. */
        int keep(Scene scene) {
            int n = count;
            ends[n] = scene.endsWord();
            lowLetters[n] = scene.lettersWord(0);
            highLetters[n] = scene.lettersWord(1);
            slots[slotOf(ends[n], lowLetters[n], highLetters[n])] = n + 1;
            count++;
            return n;
        }

        void load(int n, Scene scene) {
            scene.load(ends[n], lowLetters[n], highLetters[n]);
        }

        /** The slot that has these words' number, or the empty one that is due to them. */
        private int slotOf(long endsWord, long lowWord, long highWord) {
            int slot = startOf(endsWord, lowWord, highWord);
            for (int tries = 0; tries < SLOTS; tries++) {
                int n = slots[slot] - 1;
                if (n < 0) {
                    return slot;
                }
                if (ends[n] == endsWord && lowLetters[n] == lowWord && highLetters[n] == highWord) {
                    return slot;
                }
                slot = slot + 1 & SLOTS - 1;
            }
            return slot;
        }

        private static int startOf(long endsWord, long lowWord, long highWord) {
            long mixed = (endsWord * 31 + lowWord) * 31 + highWord;
            mixed = (mixed ^ mixed >>> 29) * 0x9E3779B97F4A7C15L;
            mixed = (mixed ^ mixed >>> 32) * 0x9E3779B97F4A7C15L;
            return (int) (mixed >>> 64 - SLOT_BITS);
        }
    }

    /** The BADS of a walk: all are counted, the first ones kept. */
    private static final class BadList {
        private final int[] hows;
        private final int[] states;
        private final int[] steps;
        private int count;

        BadList() {
            hows = new int[MOST_BADS];
            states = new int[MOST_BADS];
            steps = new int[MOST_BADS];
            count = 0;
        }

        void clear() {
            count = 0;
        }

        int count() {
            return count;
        }

        void add(int how, int state, int step) {
            if (count < MOST_BADS) {
                hows[count] = how;
                states[count] = state;
                steps[count] = step;
            }
            count++;
        }

        int ask(int i, int what) {
            if (i < 0 || i >= count || i >= MOST_BADS) {
                return NONE;
            }
            switch (what) {
                case 0:
                    return hows[i];
                case 1:
                    return states[i];
                case 2:
                    return steps[i];
                default:
                    return NONE;
            }
        }
    }

    /** Numbers of states of the walk, in rising order. */
    private static final class NumberList {
        private final int[] numbers;
        private int count;

        NumberList() {
            numbers = new int[MOST_STATES];
            count = 0;
        }

        void clear() {
            count = 0;
        }

        int count() {
            return count;
        }

        void add(int n) {
            if (count < MOST_STATES) {
                numbers[count] = n;
                count++;
            }
        }

        int at(int i) {
            return i >= 0 && i < count ? numbers[i] : NONE;
        }
    }

    /**
     * Which states lead to a QUIET one. A path is a state's number times MOST_STEPS and the step's number;
     * the paths that lead to one state are chained, so that they can be gone backwards.
     */
    private static final class Backtrack {
        private static final int MOST_PATHS = MOST_STATES * MOST_STEPS;

        private final int[] latestPaths;
        private final int[] earlierPaths;
        private final boolean[] leading;
        private final NumberList reached;

        Backtrack() {
            latestPaths = new int[MOST_STATES];
            earlierPaths = new int[MOST_PATHS];
            leading = new boolean[MOST_STATES];
            reached = new NumberList();
        }

        void clear() {
            reached.clear();
        }

        void addState(int n) {
            latestPaths[n] = NONE;
            leading[n] = false;
        }

        void addPath(int path, int to) {
            earlierPaths[path] = latestPaths[to];
            latestPaths[to] = path;
        }

        void markLeading(int n) {
            if (!leading[n]) {
                leading[n] = true;
                reached.add(n);
            }
        }

        boolean isLeading(int n) {
            return leading[n];
        }

        void spread() {
            for (int k = 0; k < MOST_STATES && k < reached.count(); k++) {
                int path = latestPaths[reached.at(k)];
                for (int gone = 0; gone < MOST_PATHS && path != NONE; gone++) {
                    markLeading(path / MOST_STEPS);
                    path = earlierPaths[path];
                }
            }
        }
    }

    /** THE WALK: what it found, and how it came there. */
    private static final class Atlas {
        private final Protocol protocol;
        private final Acting acting;
        private final Scene base;
        private final Scene trial;
        private final StepList choices;
        private final Shelf shelf;
        private final BadList bads;
        private final NumberList stuck;
        private final NumberList lost;
        private final Backtrack backtrack;
        private final int[] finders;
        private final int[] depths;
        private final int[] usedRows;
        private int room;
        private int tried;
        private int quiet;
        private boolean spent;

        Atlas(Protocol protocol, Acting acting) {
            this.protocol = protocol;
            this.acting = acting;
            base = new Scene();
            trial = new Scene();
            choices = new StepList(protocol);
            shelf = new Shelf();
            bads = new BadList();
            stuck = new NumberList();
            lost = new NumberList();
            backtrack = new Backtrack();
            finders = new int[MOST_STATES];
            depths = new int[MOST_STATES];
            usedRows = new int[PLACES];
            room = 0;
            tried = 0;
            quiet = 0;
            spent = false;
        }

        void begin(int most) {
            shelf.clear();
            bads.clear();
            stuck.clear();
            lost.clear();
            backtrack.clear();
            Arrays.fill(usedRows, 0);
            room = most;
            tried = 0;
            quiet = 0;
            spent = false;
            trial.begin(protocol.home());
            keepTrial(NONE, 0);
        }

        void visit(int from) {
            shelf.load(from, base);
            choices.list(base);
            if (base.isQuiet()) {
                quiet++;
                backtrack.markLeading(from);
            } else if (choices.count() == 0) {
                stuck.add(from);
            }
            for (int i = 0; i < choices.count(); i++) {
                tryStep(from, i);
            }
        }

        void finish() {
            backtrack.spread();
            for (int n = 0; n < shelf.count(); n++) {
                if (!backtrack.isLeading(n)) {
                    lost.add(n);
                }
            }
        }

        private void tryStep(int from, int i) {
            tried++;
            markUsed(choices.placeAt(i));
            trial.copy(base);
            int how = acting.perform(trial, choices, i);
            if (how != GOOD) {
                bads.add(how, from, i);
                return;
            }
            int path = from * MOST_STEPS + i;
            int to = shelf.find(trial);
            if (to == NONE) {
                to = keepTrial(path, depths[from] + 1);
            }
            if (to != NONE) {
                backtrack.addPath(path, to);
            }
        }

        /** A letter for which there is no row uses none, even if one is written there after the walk. */
        private void markUsed(int place) {
            if (protocol.hasRow(place)) {
                usedRows[place] = 1;
            }
        }

        /** The new state's number; NONE, and the walk is SPENT, if it has no room for one more. */
        private int keepTrial(int path, int depth) {
            if (shelf.count() >= room) {
                spent = true;
                return NONE;
            }
            int n = shelf.keep(trial);
            finders[n] = path;
            depths[n] = depth;
            backtrack.addState(n);
            int how = protocol.badnessOf(trial);
            if (how != GOOD) {
                bads.add(how, n, NONE);
            }
            return n;
        }

        int figure(int what) {
            switch (what) {
                case 0:
                    return shelf.count();
                case 1:
                    return tried;
                case 2:
                    return bads.count();
                case 3:
                    return stuck.count();
                case 4:
                    return lost.count();
                case 5:
                    return greatestDepth();
                case 6:
                    return spent ? 1 : 0;
                case 7:
                    return quiet;
                default:
                    return NONE;
            }
        }

        /** States are found in the order of their depths, so the last one is as far as any. */
        private int greatestDepth() {
            int count = shelf.count();
            return count == 0 ? 0 : depths[count - 1];
        }

        int countStates() {
            return shelf.count();
        }

        boolean isSpent() {
            return spent;
        }

        boolean hasState(int n) {
            return n >= 0 && n < shelf.count();
        }

        int badAt(int i, int what) {
            return bads.ask(i, what);
        }

        int stuckAt(int i) {
            return stuck.at(i);
        }

        int lostAt(int i) {
            return lost.at(i);
        }

        int depthOf(int n) {
            return depths[n];
        }

        /** The k-th step of the way to a state; the caller has asked whether the way is as long. */
        int stepTowards(int n, int k) {
            int at = n;
            for (int d = depths[n] - 1; d > k; d--) {
                at = finders[at] / MOST_STEPS;
            }
            return finders[at] % MOST_STEPS;
        }

        void load(int n, Scene scene) {
            shelf.load(n, scene);
        }

        int numberOf(Scene scene) {
            return shelf.find(scene);
        }

        int usedAt(int place) {
            return usedRows[place];
        }
    }
}
