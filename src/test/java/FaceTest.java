import java.lang.reflect.Field;
import java.lang.reflect.Method;
import java.lang.reflect.Modifier;
import java.nio.charset.StandardCharsets;
import java.nio.file.Files;
import java.nio.file.Path;
import java.util.ArrayList;
import java.util.Arrays;
import java.util.List;
import java.util.Set;
import java.util.TreeSet;
import java.util.regex.Matcher;
import java.util.regex.Pattern;

/** The public face of the document, and the rules of LANGUAGE.md that can be seen from the text. */
public final class FaceTest {
    private static int wrong = 0;

    private static void check(boolean holds, String what) {
        if (!holds) {
            wrong++;
            System.out.println("not as due: " + what);
        }
    }

    public static void main(String[] args) throws Exception {
        face();
        source(Files.readString(Path.of("src/main/java/TalkStrainer.java"), StandardCharsets.ISO_8859_1));
        System.out.println(wrong == 0 ? "the face and the text are as due" : wrong + " things are not as due");
        if (wrong != 0) {
            System.exit(1);
        }
    }

    private static final String FACE = "int word(int,int) int words(int,int,int) int mesh(int) int person(int) int mend(int,int,int) "
        + "int of(int,int) int feed(int) int law() int lets(int,int) int through(int,int,int) int nth(int,int,int,int) "
        + "int several(int,int) int say(int,int,int) int finest(int) int keeps(int) int leastLost(int) int most(int) "
        + "long said(int,int) int saidAt(int,int,int) long alone(int,int,int) int howFine(int,int) int between(int,int,int) "
        + "int meant(int,int,int) long likely(int,int,int,int) int game(int,int) int drawn(int,int,int,int) int speak(int,int) "
        + "int rinse(int) int led(int) int image() int back() int undo() int redo() int body(int) int act(int,int,int) "
        + "int trace(int) int keep(int,int) int row(int,int,int) int put(int,int,long) long element(int,int) "
        + "int shift(int,int,int,int,int) int taken(int,int) int count(int)";

    private static void face() {
        Class<?> c = TalkStrainer.class;
        check(Modifier.isPublic(c.getModifiers()) && Modifier.isFinal(c.getModifiers()), "the class is public and final");
        check(c.getDeclaredConstructors().length == 1 && Modifier.isPublic(c.getDeclaredConstructors()[0].getModifiers())
            && c.getDeclaredConstructors()[0].getParameterCount() == 0, "one public constructor without parameters");
        Set<String> due = new TreeSet<>();
        Matcher m = Pattern.compile("\\w+ \\w+\\([^)]*\\)").matcher(FACE);
        while (m.find()) {
            due.add(m.group());
        }
        check(due.size() == 43, "43 calls, but there are " + due.size());
        Set<String> names = new TreeSet<>();
        Set<String> there = new TreeSet<>();
        for (Method method : c.getDeclaredMethods()) {
            if (!Modifier.isPrivate(method.getModifiers())) {
                List<String> types = new ArrayList<>();
                for (Class<?> type : method.getParameterTypes()) {
                    types.add(type.getName());
                }
                there.add(method.getReturnType().getName() + " " + method.getName() + "(" + String.join(",", types) + ")");
                names.add(method.getName());
                check(Modifier.isPublic(method.getModifiers()) && !Modifier.isStatic(method.getModifiers())
                    && method.getExceptionTypes().length == 0, "plain public: " + method);
            }
        }
        check(there.equals(due), "the calls " + there);
        Set<String> constants = new TreeSet<>();
        for (Field field : c.getDeclaredFields()) {
            if (!Modifier.isPrivate(field.getModifiers())) {
                constants.add(field.getName());
                check(field.getType() == int.class && Modifier.isStatic(field.getModifiers()) && Modifier.isFinal(field.getModifiers()),
                    "a constant: " + field);
            }
        }
        check(constants.equals(new TreeSet<>(Arrays.asList("BAD", "NOT", "FULL", "STATE", "VOID"))), "the constants " + constants);
        check(c.getDeclaredClasses().length <= 12, "twelve classes at most");
        inside(c, names);
    }

    private static void inside(Class<?> c, Set<String> publicNames) {
        List<Class<?>> all = new ArrayList<>(Arrays.asList(c.getDeclaredClasses()));
        all.add(c);
        for (Class<?> one : all) {
            check(one == c || Modifier.isStatic(one.getModifiers()) && !Modifier.isPublic(one.getModifiers()), "static inside: " + one);
            int fields = 0;
            for (Field field : one.getDeclaredFields()) {
                if (Modifier.isStatic(field.getModifiers())) {
                    check(Modifier.isFinal(field.getModifiers()), "static and final: " + field);
                } else {
                    fields++;
                }
            }
            check(fields <= 20, "twenty fields at most: " + one);
            for (Method method : one.getDeclaredMethods()) {
                check(method.getParameterCount() <= 7, "seven parameters at most: " + method);
                boolean ofFace = one == c && Modifier.isPublic(method.getModifiers());
                check(ofFace || !publicNames.contains(method.getName()), "the name of a public call: " + method);
            }
        }
    }

    private static void source(String text) {
        for (int at = 0; at < text.length(); at++) {
            char sign = text.charAt(at);
            check(sign == '\n' || sign >= 32 && sign < 127, "plain signs alone, at " + at);
        }
        String code = text.replaceAll("(?s)/\\*.*?\\*/", "").replaceAll("//[^\n]*", "");
        String[] forbidden = {"import", "package", "throw", "throws", "try", "catch", "synchronized", "assert", "float", "double",
            "Thread", "Exact", "hashCode", "toString", "Object", "Random", "native", "volatile", "transient", "getClass"};
        for (String word : forbidden) {
            check(!Pattern.compile("\\b" + word + "\\b").matcher(code).find(), "no " + word);
        }
        check(!code.contains("->") && !code.contains("::") && !code.contains("@"), "no lambda, method reference, annotation");
        Matcher library = Pattern.compile("\\b(System|Math|Integer|Long|Arrays)\\.(\\w+)").matcher(code);
        Set<String> allowed = Set.of("System.arraycopy", "Math.min", "Math.max", "Math.abs", "Integer.bitCount");
        while (library.find()) {
            check(allowed.contains(library.group()), "the library: " + library.group());
        }
        methods(code);
    }

    /** Methods stay short, and only constructors make anything: so no run can fill the room. */
    private static void methods(String code) {
        String[] lines = code.split("\n");
        Pattern start = Pattern.compile("^( {4}| {8})(public |private |static )*((?:int|long|boolean|void) )?(\\w+)\\([^;]*\\) \\{$");
        int begin = -1;
        boolean constructor = false;
        String indent = "";
        for (int at = 0; at < lines.length; at++) {
            Matcher m = start.matcher(lines[at]);
            if (begin < 0 && m.matches()) {
                begin = at;
                indent = m.group(1);
                constructor = m.group(3) == null && Character.isUpperCase(m.group(4).charAt(0));
            } else if (begin >= 0 && lines[at].equals(indent + "}")) {
                check(at - begin < 60, "a short method: " + lines[begin].trim());
                begin = -1;
            } else if (lines[at].matches(".*\\bnew\\b.*")) {
                check(begin >= 0 && constructor, "made in constructors alone: " + lines[at].trim());
            }
        }
        check(begin < 0, "every method ends");
    }
}
