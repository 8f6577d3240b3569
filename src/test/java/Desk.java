import java.io.IOException;
import java.nio.file.Files;
import java.nio.file.Path;
import java.util.TreeSet;

/** What the tests by hand share: rows written act by act, answers held against those that are due. */
abstract class Desk {
    static final int CACHE = 0;
    static final int HOME = 1;
    static final int LOAD = 0;
    static final int STORE = 1;
    static final int EVICT = 2;
    /** In place of a promise's number: the chapters of the document ahead of the promises. */
    static final int TERMS = 0;
    static final int WHAT_IT_IS = -1;

    private static final Path DOCUMENT = Path.of("../shared/DOC.md");

    private static int wrong = 0;
    private static int asked = 0;
    private static int sentences = 0;
    private static String about = "";
    private static String document = null;

    static void due(String call, int got, int want) {
        asked++;
        if (got != want) {
            wrong++;
            System.out.println(about + call + " answered " + got + ", due is " + want);
        }
    }

    static void due(int promise, String call, int got, int want) {
        about = "promise " + promise + ": ";
        due(call, got, want);
    }

    /** A test of one sentence, which must stand word by word in the document, if that is here to be read. */
    static void sentence(int promise, String text, Runnable test) {
        sentences++;
        about = title(promise) + " \"" + text + "\": ";
        if (!document().isEmpty() && !chapter(promise).contains(text)) {
            wrong++;
            System.out.println(about + "does not stand there");
        }
        test.run();
    }

    private static String title(int promise) {
        return promise == WHAT_IT_IS ? "What it is" : promise == TERMS ? "Terms" : "Promise " + promise + ":";
    }

    private static String chapter(int promise) {
        String title = "## " + title(promise) + " ";
        String whole = document();
        int from = whole.indexOf(title);
        if (from < 0) {
            return "";
        }
        int to = whole.indexOf(" ## ", from + title.length());
        return to < 0 ? whole.substring(from) : whole.substring(from, to);
    }

    private static String document() {
        if (document == null) {
            try {
                document = Files.readString(DOCUMENT).replaceAll("\\s+", " ");
            } catch (IOException e) {
                System.out.println(DOCUMENT + " can't be read: the quotations are not looked up");
                document = "";
            }
        }
        return document;
    }

    static void finish() {
        if (sentences > 0) {
            System.out.println(sentences + " sentences were tested");
        }
        System.out.println(asked + " answers were asked for");
        System.out.println(wrong == 0 ? "all answers are as due" : wrong + " answers are not as due");
        if (wrong != 0) {
            System.exit(1);
        }
    }

    static int where(int side, int state, int event, int n) {
        return ((side * 16 + state) * 64 + event) * 16 + n;
    }

    static int kind(int k) {
        return 3 + k;
    }

    /** Writes a row of acts, each given as hex: its OP, then its ARGUMENT. */
    static int put(CohereBench x, int side, int state, int event, int... acts) {
        return x.row(where(side, state, event, acts.length), four(acts, 0), four(acts, 4));
    }

    private static int four(int[] acts, int from) {
        int sum = 0;
        for (int i = from; i < from + 4; i++) {
            sum = sum << 8 | (i < acts.length ? acts[i] : 0);
        }
        return sum;
    }

    /** The letters as text: KIND from to FOR DATA of each. */
    static String letters(CohereBench x) {
        StringBuilder b = new StringBuilder();
        for (int i = 0; i < x.now(0); i++) {
            for (int what = 0; what < 5; what++) {
                b.append(x.letter(i, what));
            }
            b.append(' ');
        }
        return b.toString().trim();
    }

    static void dueLetters(CohereBench x, String want) {
        String got = letters(x);
        due("the letters " + got + " against " + want, got.equals(want) ? 1 : 0, 1);
    }

    /** Does these steps, none of which is BAD. */
    static void choose(CohereBench x, int... steps) {
        for (int i : steps) {
            due("choose(" + i + ")", x.choose(i), 0);
        }
    }

    /** The last step that can be done: the coming of the last letter that can come. */
    static void chooseLast(CohereBench x) {
        choose(x, x.steps() - 1);
    }

    static CohereBench withProcessors(int n) {
        CohereBench x = new CohereBench();
        x.processors(n);
        return x;
    }

    /** Numbers outside least .. most: those next to it, and those that a wrap-around or a mask would bring back. */
    static int[] strays(int least, int most) {
        TreeSet<Integer> out = new TreeSet<>();
        for (int bit = 0; bit < 32; bit++) {
            for (int inside : new int[] {least, most}) {
                out.add(inside + (1 << bit));
                out.add(inside - (1 << bit));
                out.add(~inside ^ 1 << bit);
            }
        }
        out.add(Integer.MIN_VALUE);
        out.add(Integer.MAX_VALUE);
        out.removeIf(v -> v >= least && v <= most);
        return out.stream().mapToInt(Integer::intValue).toArray();
    }
}
