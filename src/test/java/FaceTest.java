import java.lang.reflect.Constructor;
import java.lang.reflect.Field;
import java.lang.reflect.Member;
import java.lang.reflect.Method;
import java.lang.reflect.Modifier;
import java.util.Arrays;
import java.util.Set;
import java.util.TreeSet;

/** The public face: the document's members, and no others that can be seen from outside. */
public final class FaceTest {
    private static final String[] FACE = {
        "FULL", "NONE", "NOT_POSSIBLE", "OUT_OF_RANGE", "UNKNOWN",
        "attacked(int)", "attackers(int,int)", "clearAll()", "clearText()", "drop(int,int)",
        "dropReason(int,int)", "drops(int)", "hand(int,int)", "keep()", "make(int)", "man(int)",
        "mate()", "move(int,int,boolean)", "moveReason(int,int,boolean)", "perform()", "playAt(int)",
        "put(int,int)", "restore()", "setHand(int,int,int)", "setSide(int)", "takeOff(int)",
        "tightest()", "total(int)", "type(char)", "undo()", "worth(int)"
    };

    public static void main(String[] args) {
        Due.due("UNKNOWN", FiveShogi.UNKNOWN, -1001);
        Due.due("OUT_OF_RANGE", FiveShogi.OUT_OF_RANGE, -1002);
        Due.due("FULL", FiveShogi.FULL, -1003);
        Due.due("NOT_POSSIBLE", FiveShogi.NOT_POSSIBLE, -1004);
        Due.due("NONE", FiveShogi.NONE, -1005);
        Due.due("a final class", Modifier.isFinal(FiveShogi.class.getModifiers()) ? 1 : 0, 1);
        Set<String> names = new TreeSet<>();
        for (Method method : FiveShogi.class.getDeclaredMethods()) {
            if (isSeen(method)) {
                names.add(nameOf(method));
                Due.due(method + " answers an int", method.getReturnType() == int.class ? 1 : 0, 1);
            }
        }
        for (Field field : FiveShogi.class.getDeclaredFields()) {
            if (isSeen(field)) {
                names.add(field.getName());
            }
        }
        for (Constructor<?> constructor : FiveShogi.class.getDeclaredConstructors()) {
            Due.due("a public constructor without arguments",
                    Modifier.isPublic(constructor.getModifiers()) ? constructor.getParameterCount() : -1, 0);
        }
        Set<String> due = new TreeSet<>(Arrays.asList(FACE));
        Due.due("the face " + names, names.equals(due) ? 1 : 0, 1);
        privateNames();
        Due.end();
    }

    /** No method of the classes inside, and no private one, bears the name of a public one. */
    private static void privateNames() {
        Set<String> taken = new TreeSet<>();
        for (String name : FACE) {
            taken.add(name.replaceAll("\\(.*", ""));
        }
        for (Method method : FiveShogi.class.getDeclaredMethods()) {
            if (!isSeen(method)) {
                Due.due(method + " has a name of its own", taken.contains(method.getName()) ? 0 : 1, 1);
            }
        }
        for (Class<?> inside : FiveShogi.class.getDeclaredClasses()) {
            Due.due(inside + " is static", Modifier.isStatic(inside.getModifiers()) ? 1 : 0, 1);
            for (Method method : inside.getDeclaredMethods()) {
                Due.due(method + " has a name of its own", taken.contains(method.getName()) ? 0 : 1, 1);
            }
        }
    }

    private static boolean isSeen(Member member) {
        return !Modifier.isPrivate(member.getModifiers()) && !member.isSynthetic();
    }

    private static String nameOf(Method method) {
        String parameters = Arrays.toString(method.getParameterTypes());
        return method.getName() + "(" + parameters.substring(1, parameters.length() - 1).replace(" ", "") + ")";
    }
}
