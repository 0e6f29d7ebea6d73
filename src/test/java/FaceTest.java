import java.lang.reflect.Field;
import java.lang.reflect.Method;
import java.lang.reflect.Modifier;
import java.util.ArrayList;
import java.util.Arrays;
import java.util.List;
import java.util.Set;
import java.util.TreeSet;
import java.util.regex.Matcher;
import java.util.regex.Pattern;

/** The public face of the document: these calls and constants, and no others. */
public final class FaceTest {
    private static int wrong = 0;

    private static void check(boolean holds, String what) {
        if (!holds) {
            wrong++;
            System.out.println("not as due: " + what);
        }
    }

    public static void main(String[] args) {
        face();
        System.out.println(wrong == 0 ? "the face is as due" : wrong + " things are not as due");
        if (wrong != 0) {
            System.exit(1);
        }
    }

    private static final String FACE = "int word(int,int) int words(int,int,int) int mesh(int) int person(int) int mend(int,int,int) "
        + "int of(int,int) int feed(int) int law() int lets(int,int) int through(int,int,int) int nth(int,int,int,int) "
        + "int several(int,int) int say(int,int,int) int finest(int) int keeps(int) int leastLost(int) int most(int) "
        + "long said(int,int) int saidAt(int,int,int) long alone(int,int,int) int howFine(int,int) int between(int,int,int) "
        + "int meant(int,int,int) long likely(int,int,int,int) int game(int,int) int drawn(int,int,int,int) int speak(int,int) "
        + "int rinse(int) int led(int) int image() int back() int undo() int redo() int body(int) int act(int,int,int) "
        + "int trace(int) int keep(int,int) int row(int,int,int) int put(int,int,long) long element(int,int) "
        + "int shift(int,int,int,int,int) int taken(int,int) int count(int)";

    private static void face() {
        Class<?> c = TalkStrainer.class;
        check(Modifier.isPublic(c.getModifiers()) && Modifier.isFinal(c.getModifiers()), "the class is public and final");
        check(c.getDeclaredConstructors().length == 1 && Modifier.isPublic(c.getDeclaredConstructors()[0].getModifiers())
            && c.getDeclaredConstructors()[0].getParameterCount() == 0, "one public constructor without parameters");
        Set<String> due = new TreeSet<>();
        Matcher m = Pattern.compile("\\w+ \\w+\\([^)]*\\)").matcher(FACE);
        while (m.find()) {
            due.add(m.group());
        }
        check(due.size() == 43, "43 calls, but there are " + due.size());
        Set<String> there = new TreeSet<>();
        for (Method method : c.getDeclaredMethods()) {
            if (!Modifier.isPrivate(method.getModifiers())) {
                List<String> types = new ArrayList<>();
                for (Class<?> type : method.getParameterTypes()) {
                    types.add(type.getName());
                }
                there.add(method.getReturnType().getName() + " " + method.getName() + "(" + String.join(",", types) + ")");
                check(Modifier.isPublic(method.getModifiers()) && !Modifier.isStatic(method.getModifiers())
                    && method.getExceptionTypes().length == 0, "plain public: " + method);
            }
        }
        check(there.equals(due), "the calls " + there);
        Set<String> constants = new TreeSet<>();
        for (Field field : c.getDeclaredFields()) {
            if (!Modifier.isPrivate(field.getModifiers())) {
                constants.add(field.getName());
                check(field.getType() == int.class && Modifier.isStatic(field.getModifiers()) && Modifier.isFinal(field.getModifiers()),
                    "a constant: " + field);
            }
        }
        check(constants.equals(new TreeSet<>(Arrays.asList("BAD", "NOT", "FULL", "STATE", "VOID"))), "the constants " + constants);
    }
}
