import java.io.IOException;
import java.lang.reflect.Constructor;
import java.lang.reflect.Field;
import java.lang.reflect.Method;
import java.lang.reflect.Modifier;
import java.nio.file.Files;
import java.nio.file.Path;
import java.util.Set;
import java.util.TreeSet;
import java.util.regex.Matcher;
import java.util.regex.Pattern;

/** The public face of the document and nothing more; and the words that LANGUAGE.md rules out. */
public final class FaceTest {
    private static final Set<String> FACE = Set.of("NONE", "CohereBench()", "processors(int)", "net(int,int)",
        "right(int,int)", "row(int,int,int)", "tear(int)", "rows(int)", "reset()", "steps()", "step(int,int)",
        "choose(int)", "end(int,int)", "letter(int,int)", "now(int)", "walk(int)", "walked(int)", "bad(int,int)",
        "found(int,int)", "far(int)", "way(int,int)", "go(int)", "number()", "used(int)");
    private static final String[] RULED_OUT = {"throw", "throws", "try", "catch", "synchronized", "assert",
        "->", "::", "Exact", "HashMap", "Random", "System.out", "System.nanoTime", "Thread", "var", "transient"};
    private static final Set<Class<?>> CONSTANTS = Set.of(int.class, long.class, boolean.class, char.class,
        String.class);
    private static final int MOST_CLASSES = 12;
    private static final int MOST_FIELDS = 20;
    private static final int MOST_PARAMETERS = 7;
    private static final int MOST_LINES = 60;

    private static int wrong = 0;

    private static void say(String what) {
        wrong++;
        System.out.println(what);
    }

    public static void main(String[] args) throws IOException {
        face();
        words();
        lengths();
        System.out.println(wrong == 0 ? "the face is as due" : wrong + " things are not as due");
        if (wrong != 0) {
            System.exit(1);
        }
    }

    private static void face() {
        Set<String> open = new TreeSet<>();
        for (Field f : CohereBench.class.getDeclaredFields()) {
            if (!Modifier.isPrivate(f.getModifiers())) open.add(f.getName());
        }
        for (Constructor<?> c : CohereBench.class.getDeclaredConstructors()) {
            if (!Modifier.isPrivate(c.getModifiers())) open.add("CohereBench" + parameters(c.toString()));
        }
        Set<String> shown = new TreeSet<>();
        Set<String> hidden = new TreeSet<>();
        for (Method m : CohereBench.class.getDeclaredMethods()) {
            if (Modifier.isPrivate(m.getModifiers())) {
                hidden.add(m.getName());
            } else {
                open.add(m.getName() + parameters(m.toString()));
                shown.add(m.getName());
                if (m.getReturnType() != int.class || !Modifier.isPublic(m.getModifiers())) say("not as due: " + m);
            }
        }
        if (!open.equals(FACE)) say("the face is " + open);
        if (!Modifier.isFinal(CohereBench.class.getModifiers())) say("the class is not final");
        for (Class<?> c : CohereBench.class.getDeclaredClasses()) {
            if (!Modifier.isStatic(c.getModifiers())) say("not static: " + c);
            for (Method m : c.getDeclaredMethods()) hidden.add(m.getName());
        }
        hidden.retainAll(shown);
        if (!hidden.isEmpty()) say("these bear the name of a public one: " + hidden);
        if (CohereBench.class.getDeclaredClasses().length + 1 > MOST_CLASSES) say("too many classes");
        measures(CohereBench.class);
        for (Class<?> c : CohereBench.class.getDeclaredClasses()) measures(c);
    }

    /** A static field is final and a constant; a class has few fields, a method or constructor few parameters. */
    private static void measures(Class<?> c) {
        int fields = 0;
        for (Field f : c.getDeclaredFields()) {
            boolean constant = Modifier.isFinal(f.getModifiers()) && CONSTANTS.contains(f.getType());
            if (!Modifier.isStatic(f.getModifiers())) fields++;
            else if (!constant) say("no constant: " + f);
        }
        if (fields > MOST_FIELDS) say("too many fields: " + c);
        for (Method m : c.getDeclaredMethods()) {
            if (m.getParameterCount() > MOST_PARAMETERS) say("too many parameters: " + m);
        }
        for (Constructor<?> m : c.getDeclaredConstructors()) {
            if (m.getParameterCount() > MOST_PARAMETERS) say("too many parameters: " + m);
        }
    }

    private static String parameters(String signature) {
        return signature.substring(signature.indexOf('('), signature.indexOf(')') + 1);
    }

    private static void words() throws IOException {
        String source = Files.readString(Path.of("src/main/java/CohereBench.java"));
        String code = source.replaceAll("(?s)/\\*.*?\\*/", "").replaceAll("//.*", "");
        for (String word : RULED_OUT) {
            boolean name = Character.isLetter(word.charAt(0));
            Matcher m = Pattern.compile(name ? "\\b" + word + "\\b" : Pattern.quote(word)).matcher(code);
            if (m.find()) say("ruled out: " + word);
        }
        Matcher imports = Pattern.compile("import ([^;]+);").matcher(code);
        while (imports.find()) {
            if (!imports.group(1).equals("java.util.Arrays")) say("ruled out: import " + imports.group(1));
        }
    }

    /** A method begins at a line that opens it, and ends where a brace stands as far to the left. */
    private static void lengths() throws IOException {
        String source = Files.readString(Path.of("src/main/java/CohereBench.java"));
        Matcher m = Pattern.compile("(?ms)^( {4}| {8})(?! )[^\\n]*\\) \\{\\n.*?^\\1\\}$").matcher(source);
        int methods = 0;
        while (m.find()) {
            methods++;
            String first = m.group().lines().findFirst().orElse("").trim();
            if (m.group().lines().count() > MOST_LINES) say("too long: " + first);
        }
        if (methods < FACE.size() - 1) say("only " + methods + " methods were found to be measured");
    }
}
