import java.lang.reflect.Constructor;
import java.lang.reflect.Field;
import java.lang.reflect.Method;
import java.lang.reflect.Modifier;
import java.util.ArrayList;
import java.util.Arrays;
import java.util.Collections;
import java.util.HashSet;
import java.util.List;
import java.util.Set;

/** The public face is the document's, no more and no less. */
public final class PaperRoomFace {
    private static final String[] FACE = {
        "constructor ()",
        "constant BAD -1", "constant FULL -3", "constant NO -4", "constant NONE -9", "constant STATE -2",
        "int about(int, int)", "int answer(int, int, boolean)", "int ask(int, int, int)", "int at(int, int)",
        "int blacken(int, int, int, int)", "int clear()", "int count(int)", "int hear(int, int)",
        "int log(int, int)", "int may(int, int)", "int named(int, int)", "int paper(int, int, int)",
        "int question(int, int)", "int read(int, int, int)", "int rights(int, int, int, int)",
        "int search(int)", "int tick(int)", "int times(int, int, int)", "int type(long, int)",
        "int version(int)", "int withdraw(int)", "long chain(int)", "long trace()",
    };

    private static int wrong = 0;

    public static void main(String[] args) throws IllegalAccessException {
        List<String> found = new ArrayList<>();
        Set<String> publicNames = new HashSet<>();
        constructors(found);
        constants(found);
        methods(found, publicNames);
        Collections.sort(found);
        List<String> want = new ArrayList<>(Arrays.asList(FACE));
        Collections.sort(want);
        hold("the face is " + found + ", due is " + want, found.equals(want));
        hold("public and final", Modifier.isPublic(PaperRoom.class.getModifiers())
                && Modifier.isFinal(PaperRoom.class.getModifiers()));
        privateNames(publicNames);
        nested();
        System.out.println(wrong == 0 ? "the face is as due" : wrong + " faults of the face");
        if (wrong != 0) {
            System.exit(1);
        }
    }

    private static void hold(String what, boolean holds) {
        if (!holds) {
            wrong++;
            System.out.println("not so: " + what);
        }
    }

    private static void constructors(List<String> found) {
        for (Constructor<?> made : PaperRoom.class.getDeclaredConstructors()) {
            if (!Modifier.isPrivate(made.getModifiers())) {
                found.add("constructor (" + names(made.getParameterTypes()) + ")");
                hold("public constructor", Modifier.isPublic(made.getModifiers()));
            }
        }
    }

    private static void constants(List<String> found) throws IllegalAccessException {
        for (Field field : PaperRoom.class.getDeclaredFields()) {
            int how = field.getModifiers();
            hold("static " + field.getName() + " is final", !Modifier.isStatic(how) || Modifier.isFinal(how));
            if (!Modifier.isPrivate(how)) {
                hold(field.getName() + " is a public constant", Modifier.isPublic(how)
                        && Modifier.isStatic(how) && field.getType() == int.class);
                found.add("constant " + field.getName() + " " + field.getInt(null));
            }
        }
    }

    private static void methods(List<String> found, Set<String> publicNames) {
        for (Method method : PaperRoom.class.getDeclaredMethods()) {
            if (!Modifier.isPrivate(method.getModifiers())) {
                hold(method.getName() + " is public", Modifier.isPublic(method.getModifiers()));
                publicNames.add(method.getName());
                found.add(method.getReturnType() + " " + method.getName()
                        + "(" + names(method.getParameterTypes()) + ")");
            }
        }
    }

    private static void privateNames(Set<String> publicNames) {
        for (Method method : PaperRoom.class.getDeclaredMethods()) {
            hold("private " + method.getName() + " has a name of its own",
                    !Modifier.isPrivate(method.getModifiers()) || !publicNames.contains(method.getName()));
        }
    }

    private static void nested() {
        Class<?>[] inside = PaperRoom.class.getDeclaredClasses();
        hold("at most twelve classes", inside.length < 12);
        for (Class<?> one : inside) {
            int how = one.getModifiers();
            hold(one.getName() + " is static", Modifier.isStatic(how));
            hold(one.getName() + " is not public", !Modifier.isPublic(how) && !Modifier.isProtected(how));
        }
    }

    private static String names(Class<?>[] types) {
        StringBuilder text = new StringBuilder();
        for (Class<?> type : types) {
            text.append(text.length() == 0 ? "" : ", ").append(type.getName());
        }
        return text.toString();
    }
}
