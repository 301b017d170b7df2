import java.lang.reflect.Constructor;
import java.lang.reflect.Executable;
import java.lang.reflect.Field;
import java.lang.reflect.Method;
import java.lang.reflect.Modifier;
import java.lang.reflect.Parameter;
import java.util.ArrayList;
import java.util.Arrays;
import java.util.Collections;
import java.util.HashSet;
import java.util.List;
import java.util.Set;

/** The public face is the document's, line by line, no more and no less. */
public final class PaperRoomFace {
    private static final String[] FACE = {
        "constant BAD -1", "constant STATE -2", "constant FULL -3", "constant NO -4", "constant NONE -9",
        "constructor ()",
        "int type(long v, int n)",
        "int clear()",
        "int paper(int kind, int folder, int tick)",
        "int version(int paper)",
        "int blacken(int paper, int version, int from, int to)",
        "int withdraw(int paper)",
        "int rights(int group, int folder, int from, int before)",
        "int tick(int n)",
        "int about(int paper, int what)",
        "int may(int bidder, int paper)",
        "int read(int bidder, int paper, int version)",
        "int at(int bidder, int i)",
        "int search(int bidder)",
        "int named(int paper, int version)",
        "int log(int i, int what)",
        "long chain(int i)",
        "int times(int bidder, int paper, int version)",
        "int ask(int bidder, int paper, int topic)",
        "int answer(int question, int v, boolean all)",
        "int hear(int bidder, int question)",
        "int question(int question, int what)",
        "int count(int what)",
        "long trace()",
    };

    private static int wrong = 0;

    public static void main(String[] args) throws IllegalAccessException {
        List<String> found = new ArrayList<>();
        Set<String> publicNames = new HashSet<>();
        constructors(found);
        constants(found);
        methods(found, publicNames);
        Collections.sort(found);
        List<String> want = new ArrayList<>(Arrays.asList(FACE));
        Collections.sort(want);
        hold("the face is " + found + ", due is " + want, found.equals(want));
        hold("public and final", Modifier.isPublic(PaperRoom.class.getModifiers())
                && Modifier.isFinal(PaperRoom.class.getModifiers()));
        hold("no package", PaperRoom.class.getPackageName().isEmpty());
        hold("a class that extends and implements nothing", PaperRoom.class.getSuperclass() == Object.class
                && PaperRoom.class.getInterfaces().length == 0 && PaperRoom.class.getTypeParameters().length == 0);
        hold("five constants of five values", nameOf(-1).equals("BAD") && nameOf(-2).equals("STATE")
                && nameOf(-3).equals("FULL") && nameOf(-4).equals("NO") && nameOf(-9).equals("NONE"));
        privateNames(publicNames);
        nested();
        System.out.println(wrong == 0 ? "the face is as due" : wrong + " faults of the face");
        if (wrong != 0) {
            System.exit(1);
        }
    }

    private static void hold(String what, boolean holds) {
        if (!holds) {
            wrong++;
            System.out.println("not so: " + what);
        }
    }

    /** Only what the compiler knows as a constant can stand behind case. */
    private static String nameOf(int value) {
        switch (value) {
            case PaperRoom.BAD:
                return "BAD";
            case PaperRoom.STATE:
                return "STATE";
            case PaperRoom.FULL:
                return "FULL";
            case PaperRoom.NO:
                return "NO";
            case PaperRoom.NONE:
                return "NONE";
            default:
                return "";
        }
    }

    private static void constructors(List<String> found) {
        for (Constructor<?> made : PaperRoom.class.getDeclaredConstructors()) {
            if (!Modifier.isPrivate(made.getModifiers())) {
                found.add("constructor (" + parameters(made) + ")");
                hold("a public constructor that declares no exception",
                        Modifier.isPublic(made.getModifiers()) && made.getExceptionTypes().length == 0);
            }
        }
    }

    private static void constants(List<String> found) throws IllegalAccessException {
        for (Field field : PaperRoom.class.getDeclaredFields()) {
            int how = field.getModifiers();
            hold("static " + field.getName() + " is final", !Modifier.isStatic(how) || Modifier.isFinal(how));
            if (!Modifier.isPrivate(how)) {
                hold(field.getName() + " is a public constant", Modifier.isPublic(how)
                        && Modifier.isStatic(how) && field.getType() == int.class);
                found.add("constant " + field.getName() + " " + field.getInt(null));
            }
        }
    }

    private static void methods(List<String> found, Set<String> publicNames) {
        for (Method method : PaperRoom.class.getDeclaredMethods()) {
            if (!Modifier.isPrivate(method.getModifiers())) {
                hold(method.getName() + " is public and nothing else", method.getModifiers() == Modifier.PUBLIC);
                hold(method.getName() + " declares no exception", method.getExceptionTypes().length == 0);
                publicNames.add(method.getName());
                found.add(method.getReturnType() + " " + method.getName() + "(" + parameters(method) + ")");
            }
        }
    }

    private static void privateNames(Set<String> publicNames) {
        for (Method method : PaperRoom.class.getDeclaredMethods()) {
            hold("private " + method.getName() + " has a name of its own",
                    !Modifier.isPrivate(method.getModifiers()) || !publicNames.contains(method.getName()));
        }
    }

    private static void nested() {
        Class<?>[] inside = PaperRoom.class.getDeclaredClasses();
        hold("at most twelve classes", inside.length < 12);
        for (Class<?> one : inside) {
            int how = one.getModifiers();
            hold(one.getName() + " is static", Modifier.isStatic(how));
            hold(one.getName() + " is not public", !Modifier.isPublic(how) && !Modifier.isProtected(how));
        }
    }

    /** The names are known because .ci/run compiles the class with -parameters. */
    private static String parameters(Executable called) {
        StringBuilder text = new StringBuilder();
        for (Parameter one : called.getParameters()) {
            text.append(text.length() == 0 ? "" : ", ").append(one.getType()).append(' ').append(one.getName());
        }
        return text.toString();
    }
}
