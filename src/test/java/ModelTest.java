import java.util.Random;

/** Long runs of random calls: CohereBench must answer each one as PlainBench does. */
public final class ModelTest {
    private static final int RUNS = 700;
    private static final int CALLS = 512;
    private static final int[] EDGES = {-1, 0, 1, 2, 3, 4, 5, 15, 16, 199, 200, 4000, 4001,
        Integer.MIN_VALUE, Integer.MAX_VALUE};

    private final Random random;
    private final CohereBench bench = new CohereBench();
    private final PlainBench plain = new PlainBench();
    private final int run;
    private final StringBuilder told = new StringBuilder();
    private final int states;
    private final int kinds;
    private int calls = 0;
    private int wrong = 0;

    private ModelTest(int run) {
        this.run = run;
        random = new Random(run * 7919L + 17);
        states = 1 + random.nextInt(4);
        kinds = 1 + random.nextInt(4);
    }

    public static void main(String[] args) {
        int wrong = 0;
        long walked = 0;
        for (int run = 0; run < RUNS && wrong < 5; run++) {
            ModelTest t = new ModelTest(run);
            t.begin();
            while (t.calls < CALLS && t.wrong == 0) {
                t.call();
            }
            walked += Math.max(0, t.plain.walked(0));
            wrong += t.wrong;
        }
        System.out.println("the last walks had " + walked + " states in all");
        System.out.println(wrong == 0 ? "all answers are as due" : wrong + " runs went wrong");
        if (wrong != 0) {
            System.exit(1);
        }
    }

    private void due(String call, int got, int want) {
        calls++;
        told.append(call).append(" -> ").append(want).append('\n');
        if (got != want) {
            wrong++;
            System.out.println(told);
            System.out.println("run " + run + ": " + call + " answered " + got + ", due is " + want);
        }
    }

    private void begin() {
        setProcessors(1 + random.nextInt(4));
        if (random.nextInt(3) > 0) {
            // A protocol that works, so that random changes to it lead far.
            int[][] working = {{2, 304087040}, {18, 337641472}, {1025, 1879048192}, {1041, Integer.MIN_VALUE},
                {2115, 1617957120}, {4163, 1619005696}, {1106, 1360003072}, {2129, -1879048192},
                {4177, -1879048192}, {16386, 1345388544}, {16403, 1114656768}};
            for (int[] r : working) {
                putRow(r[0], r[1], 0);
            }
            setRight(1, 2);
        }
        int rows = random.nextInt(30);
        for (int i = 0; i < rows; i++) {
            putRow(place() * 16 + random.nextInt(6), acts(), acts());
        }
        for (int k = 0; k < kinds; k++) {
            setNet(k, random.nextInt(2));
        }
    }

    private int some(int bound) {
        if (random.nextInt(12) == 0) {
            return EDGES[random.nextInt(EDGES.length)];
        }
        return random.nextInt(Math.max(1, bound));
    }

    private int place() {
        int side = random.nextInt(2);
        int state = random.nextInt(states);
        int event = side == 0 ? random.nextInt(3 + kinds) : random.nextInt(2 * kinds);
        return (side * 16 + state) * 64 + event;
    }

    private int where() {
        int where = place() * 16 + random.nextInt(16);
        if (random.nextInt(6) == 0) {
            where = random.nextInt(40000);
        }
        return random.nextInt(20) == 0 ? some(40000) : where;
    }

    private int act() {
        int op = random.nextInt(30) == 0 ? random.nextInt(16) : 1 + random.nextInt(8);
        int argument = op == 1 ? random.nextInt(states) : random.nextInt(kinds);
        return op * 16 + (random.nextInt(60) == 0 ? random.nextInt(16) : argument);
    }

    private int acts() {
        return act() << 24 | act() << 16 | act() << 8 | act();
    }

    private void setProcessors(int n) {
        due("processors(" + n + ")", bench.processors(n), plain.processors(n));
    }

    private void setNet(int kind, int how) {
        due("net(" + kind + ", " + how + ")", bench.net(kind, how), plain.net(kind, how));
    }

    private void setRight(int state, int right) {
        due("right(" + state + ", " + right + ")", bench.right(state, right), plain.right(state, right));
    }

    private void putRow(int where, int a, int b) {
        due("row(" + where + ", " + a + ", " + b + ")", bench.row(where, a, b), plain.row(where, a, b));
    }

    private void call() {
        int kind = random.nextInt(100);
        if (kind < 6) {
            change();
        } else if (kind < 10) {
            int most = random.nextInt(4) == 0 ? some(4001) : some(300);
            due("walk(" + most + ")", bench.walk(most), plain.walk(most));
            for (int what = -1; what < 9; what++) {
                due("walked(" + what + ")", bench.walked(what), plain.walked(what));
            }
        } else if (kind < 40) {
            askWalk();
        } else if (kind < 65) {
            int i = random.nextInt(15) == 0 ? some(20) : some(plain.steps());
            due("choose(" + i + ")", bench.choose(i), plain.choose(i));
        } else {
            askRun();
        }
    }

    private void change() {
        switch (random.nextInt(12)) {
            case 0:
                setProcessors(some(5));
                break;
            case 1:
                setNet(some(kinds), some(2));
                break;
            case 2:
            case 3:
                setRight(some(states), some(3));
                break;
            case 4:
            case 5:
                int w = where();
                due("tear(" + w + ")", bench.tear(w), plain.tear(w));
                break;
            default:
                putRow(where(), acts(), acts());
                break;
        }
    }

    private void askWalk() {
        int s = some(plain.walked(0));
        int i = some(random.nextBoolean() ? 3 : 210);
        int what = some(3);
        switch (random.nextInt(8)) {
            case 0:
                due("bad(" + i + ", " + what + ")", bench.bad(i, what), plain.bad(i, what));
                break;
            case 1:
                int how = some(2);
                due("found(" + how + ", " + i + ")", bench.found(how, i), plain.found(how, i));
                break;
            case 2:
                due("far(" + s + ")", bench.far(s), plain.far(s));
                break;
            case 3:
            case 4:
                int k = some(Math.max(1, plain.far(s)));
                due("way(" + s + ", " + k + ")", bench.way(s, k), plain.way(s, k));
                break;
            case 5:
                due("go(" + s + ")", bench.go(s), plain.go(s));
                break;
            case 6:
                due("number()", bench.number(), plain.number());
                break;
            default:
                int w = where();
                due("used(" + w + ")", bench.used(w), plain.used(w));
                break;
        }
    }

    private void askRun() {
        int what = some(5);
        int i = some(9);
        switch (random.nextInt(8)) {
            case 0:
                if (random.nextInt(5) == 0) {
                    due("reset()", bench.reset(), plain.reset());
                }
                break;
            case 1:
                due("steps()", bench.steps(), plain.steps());
                break;
            case 2:
                int j = some(plain.steps() + 1);
                due("step(" + j + ", " + what + ")", bench.step(j, what), plain.step(j, what));
                break;
            case 3:
                int c = some(6);
                due("end(" + c + ", " + what + ")", bench.end(c, what), plain.end(c, what));
                break;
            case 4:
            case 5:
                due("letter(" + i + ", " + what + ")", bench.letter(i, what), plain.letter(i, what));
                break;
            case 6:
                due("now(" + what + ")", bench.now(what), plain.now(what));
                break;
            default:
                int side = some(2);
                due("rows(" + side + ")", bench.rows(side), plain.rows(side));
                break;
        }
    }
}
