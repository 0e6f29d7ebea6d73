import java.io.IOException;
import java.io.UncheckedIOException;
import java.lang.reflect.InvocationTargetException;
import java.lang.reflect.Method;
import java.lang.reflect.Modifier;
import java.nio.charset.StandardCharsets;
import java.nio.file.Files;
import java.nio.file.Path;
import java.util.Arrays;
import java.util.Comparator;

/**
 * What the boundary tests share. Each test names the sentence of ../shared/DOC.md that it tests, and the words must
 * stand there; what of the promises and of the terms no test has named, and nobody has called plain, is told as a fault.
 */
abstract class Sentences {
    static final int BAD = -1, NOT = -2, FULL = -3, STATE = -5;
    static final int NOTHING_THERE = -11, OTHER_KIND = -12, NO_PLACE = -13, SIZE_BELOW_0 = -14;
    static final long REFUSED = Long.MIN_VALUE;
    static final int LEAST = Integer.MIN_VALUE, GREATEST = Integer.MAX_VALUE;
    private static final int PROMISES = 44;

    // the terms stand at 0, each promise at its number
    private static final String[] TEXTS = new String[PROMISES + 1];
    private static final boolean[][] NAMED = new boolean[PROMISES + 1][];
    private static int promise;
    private static String words = "";
    private static String test = "";
    private static int asked;
    private static int sentences;
    private static int wrong;

    /** What is answered from here on is due by these words, of this promise or of the terms. */
    static void sentence(int number, String quoted) {
        promise = number;
        words = quoted;
        sentences++;
        boolean stands = name(number, quoted) || name(0, quoted);
        if (!stands) {
            fault("these words do not stand in the document");
        }
    }

    /** Words of a promise (0: of the terms) that name no boundary case. */
    static void plain(int number, String quoted) {
        promise = number;
        words = quoted;
        if (!name(number, quoted)) {
            fault("these words do not stand in the document");
        }
    }

    static void due(long got, long want) {
        asked++;
        if (got != want) {
            StackTraceElement[] stack = new Throwable().getStackTrace();
            int at = 0;
            while (at + 1 < stack.length && !stack[at].getMethodName().equals(test)) {
                at++;
            }
            fault("line " + stack[at].getLineNumber() + ": answered " + got + ", due is " + want);
        }
    }

    static void same(String got, String want) {
        asked++;
        if (!got.equals(want)) {
            fault("the state is " + got + ", due is " + want);
        }
    }

    private static void fault(String what) {
        wrong++;
        System.out.println("promise " + promise + ", \"" + words + "\", " + test + ": " + what);
    }

    // ---- objects to test

    static void lay(TalkStrainer x, int shelf, int... bytes) {
        x.row(shelf, 0, bytes.length);
        for (int i = 0; i < bytes.length; i++) {
            x.put(shelf, i, bytes[i]);
        }
    }

    /** A ROW of n bytes, all alike. */
    static void layAll(TalkStrainer x, int shelf, int n, int each) {
        int[] bytes = new int[n];
        Arrays.fill(bytes, each);
        lay(x, shelf, bytes);
    }

    static int tell(TalkStrainer x, String text) {
        for (char c : text.toCharArray()) {
            x.feed(c);
        }
        return x.law();
    }

    static int word(TalkStrainer x, int size, int harm, int sweet, int sort, int meant) {
        int number = x.word(size, harm);
        x.mend(number, 2, sweet);
        x.mend(number, 3, sort);
        x.mend(number, 4, meant);
        return number;
    }

    /** n WORDS without HARM, of SIZES 0 to 9 and 0 on again, and one MESH of FINE 0; an empty text: no law is told. */
    static TalkStrainer sizes(int n, String text) {
        TalkStrainer x = new TalkStrainer();
        for (int i = 0; i < n; i++) {
            x.word(i % 10, 0);
        }
        x.mesh(0);
        if (!text.isEmpty()) {
            tell(x, text);
        }
        return x;
    }

    /** Two WORDS lie in the MESH in deed, and by the law all passes, as long as nothing is left in it. */
    static TalkStrainer passesIfNothingIsLeft() {
        TalkStrainer x = sizes(2, "0");
        x.mend(0, 1, 3);
        x.mend(0, 2, 3);
        lay(x, 0, 0, 1);
        x.speak(0, 0);
        tell(x, "!l");
        return x;
    }

    // ---- running

    /** Runs each method of a class that is not private and takes nothing: such ones are the tests. */
    static void runAll(Class<? extends Sentences> tests) {
        Method[] methods = tests.getDeclaredMethods();
        Arrays.sort(methods, Comparator.comparing(Method::getName));
        for (Method method : methods) {
            if (!Modifier.isPrivate(method.getModifiers()) && !method.isSynthetic() && method.getParameterCount() == 0) {
                run(method);
            }
        }
    }

    private static void run(Method method) {
        test = method.getName();
        int before = asked;
        int named = sentences;
        try {
            method.invoke(null);
        } catch (InvocationTargetException e) {
            fault("threw " + e.getCause());
        } catch (IllegalAccessException e) {
            fault("can't be run");
        }
        if (sentences == named || asked < before + 2) {
            fault("names no sentence, or asks not both at the boundary and beside it");
        }
    }

    /** Tells what is not as due, the words that nothing named, too: how many faults there are. */
    static int end() {
        for (int number = 0; number <= PROMISES; number++) {
            tellUnnamed(number);
        }
        System.out.println(wrong == 0 ? sentences + " sentences hold in " + asked + " answers" : wrong + " faults");
        return wrong;
    }

    private static void tellUnnamed(int number) {
        String text = TEXTS[number];
        boolean[] named = NAMED[number];
        int from = 0;
        while (from < text.length()) {
            int to = from;
            boolean says = false;
            while (to < text.length() && !named[to]) {
                says |= Character.isLetterOrDigit(text.charAt(to));
                to++;
            }
            if (says) {
                promise = number;
                words = text.substring(from, to).trim();
                test = "end";
                fault("no test names these words");
            }
            from = to + 1;
        }
    }

    // ---- the document

    static {
        String doc = read(Path.of("../shared/DOC.md"));
        TEXTS[0] = between(doc, "\n## Terms\n", "\n## Promise 1:").replace("```text", "").replace("```", "");
        for (int number = 1; number <= PROMISES; number++) {
            String body = between(doc, "\n## Promise " + number + ":", "\n## ");
            // the name and the signature stand ahead of the words
            TEXTS[number] = body.substring(body.indexOf("`:") + 2);
        }
        for (int number = 0; number <= PROMISES; number++) {
            TEXTS[number] = TEXTS[number].replaceAll("\\s+", " ").trim();
            NAMED[number] = new boolean[TEXTS[number].length()];
        }
    }

    private static String read(Path path) {
        try {
            return Files.readString(path, StandardCharsets.UTF_8);
        } catch (IOException e) {
            throw new UncheckedIOException(e);
        }
    }

    private static String between(String text, String start, String end) {
        int from = text.indexOf(start) + start.length();
        return text.substring(from, text.indexOf(end, from));
    }

    private static boolean name(int number, String quoted) {
        String text = TEXTS[number];
        int at = text.indexOf(quoted);
        boolean found = at >= 0;
        while (at >= 0) {
            Arrays.fill(NAMED[number], at, at + quoted.length(), true);
            at = text.indexOf(quoted, at + 1);
        }
        return found;
    }
}
