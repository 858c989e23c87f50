import java.lang.reflect.Constructor;
import java.lang.reflect.Executable;
import java.lang.reflect.Field;
import java.lang.reflect.Method;
import java.lang.reflect.Modifier;
import java.util.ArrayList;
import java.util.Arrays;
import java.util.List;
import java.util.Set;
import java.util.TreeSet;

/** The public face is the document's, no more and no less. */
public final class FaceTest {
    private static final String ARGUMENT = " throws IllegalArgumentException";
    private static final String INDEX = " throws IndexOutOfBoundsException";
    private static final String STATE = " throws IllegalStateException";

    private static int wrong = 0;

    public static void main(String[] args) {
        Set<String> want = new TreeSet<>(Arrays.asList(
            "public static final int NONE",
            "public YardStacks(int, int, int)",
            "public int box(int, int, int, int, int)" + ARGUMENT + STATE,
            "public boolean ground(int, int)",
            "public boolean reserve(int, int)",
            "public int put(int, int)" + INDEX,
            "public int take(int)" + INDEX,
            "public int shift(int, int)" + INDEX,
            "public int choose(int)" + INDEX,
            "public int score(int, int)" + INDEX + STATE,
            "public int night(int)" + ARGUMENT,
            "public int undo()",
            "public int where(int, int)" + INDEX,
            "public int at(int, int)" + INDEX,
            "public int count(int)"));
        due("members that are not private", want, visibleMembers());
        due("NONE", -1, YardStacks.NONE);
        due("the class is", "public final", Modifier.toString(YardStacks.class.getModifiers()));
        due("private methods named as public ones", new TreeSet<String>(), privateNamesakes());
        due("static fields that are not final", new TreeSet<String>(), changingStatics());
        System.out.println("FaceTest: " + wrong + " wrong");
        if (wrong != 0) {
            System.exit(1);
        }
    }

    private static void due(String what, Object want, Object got) {
        if (!want.equals(got)) {
            wrong++;
            System.out.println(what + ": " + got + ", due is " + want);
        }
    }

    private static Set<String> visibleMembers() {
        Set<String> found = new TreeSet<>();
        for (Field f : YardStacks.class.getDeclaredFields()) {
            if (!Modifier.isPrivate(f.getModifiers())) {
                found.add(Modifier.toString(f.getModifiers()) + " " + f.getType().getSimpleName() + " " + f.getName());
            }
        }
        for (Constructor<?> c : YardStacks.class.getDeclaredConstructors()) {
            if (!Modifier.isPrivate(c.getModifiers())) {
                found.add(Modifier.toString(c.getModifiers()) + " YardStacks" + parametersAndThrows(c));
            }
        }
        for (Method m : YardStacks.class.getDeclaredMethods()) {
            if (!Modifier.isPrivate(m.getModifiers())) {
                found.add(Modifier.toString(m.getModifiers()) + " " + m.getReturnType().getSimpleName() + " "
                    + m.getName() + parametersAndThrows(m));
            }
        }
        return found;
    }

    private static String parametersAndThrows(Executable e) {
        List<String> types = new ArrayList<>();
        for (Class<?> type : e.getParameterTypes()) {
            types.add(type.getSimpleName());
        }
        StringBuilder text = new StringBuilder("(" + String.join(", ", types) + ")");
        for (Class<?> type : e.getExceptionTypes()) {
            text.append(" throws ").append(type.getSimpleName());
        }
        return text.toString();
    }

    private static List<Class<?>> allClasses() {
        List<Class<?>> all = new ArrayList<>(Arrays.asList(YardStacks.class.getDeclaredClasses()));
        all.add(YardStacks.class);
        return all;
    }

    private static Set<String> privateNamesakes() {
        Set<String> publicNames = new TreeSet<>();
        for (Method m : YardStacks.class.getMethods()) {
            publicNames.add(m.getName());
        }
        Set<String> found = new TreeSet<>();
        for (Class<?> c : allClasses()) {
            for (Method m : c.getDeclaredMethods()) {
                if (!Modifier.isPublic(m.getModifiers()) && publicNames.contains(m.getName())) {
                    found.add(c.getSimpleName() + "." + m.getName());
                }
            }
        }
        return found;
    }

    private static Set<String> changingStatics() {
        Set<String> found = new TreeSet<>();
        for (Class<?> c : allClasses()) {
            for (Field f : c.getDeclaredFields()) {
                if (Modifier.isStatic(f.getModifiers()) && !Modifier.isFinal(f.getModifiers())) {
                    found.add(c.getSimpleName() + "." + f.getName());
                }
            }
        }
        return found;
    }
}
