import java.lang.reflect.Constructor;
import java.lang.reflect.Field;
import java.lang.reflect.Method;
import java.lang.reflect.Modifier;
import java.util.ArrayList;
import java.util.Collections;
import java.util.List;

/** The class shows the document's face with its exceptions, and nothing else. */
public final class FaceTest {
    private static final String[] FACE = {
        "public int setWarm(int,int) throws IndexOutOfBoundsException,IllegalArgumentException",
        "public int setIce(int,int,int) throws IndexOutOfBoundsException,IllegalArgumentException",
        "public int build(int) throws IndexOutOfBoundsException",
        "public int place(int,int,int) throws IndexOutOfBoundsException",
        "public int come(int,int,int,int,boolean) throws IndexOutOfBoundsException,IllegalArgumentException,"
            + "IllegalStateException",
        "public int send(int,int) throws IndexOutOfBoundsException,IllegalStateException",
        "public int load(int,int) throws IndexOutOfBoundsException,IllegalArgumentException,IllegalStateException",
        "public int courier(int,int) throws IndexOutOfBoundsException",
        "public int wager(int,int) throws IllegalArgumentException,IllegalStateException",
        "public int wins(int) throws IndexOutOfBoundsException",
        "public int pass(int) throws IllegalArgumentException",
        "public int count(int) throws IndexOutOfBoundsException",
        "public int bears(int,int) throws IndexOutOfBoundsException",
        "public int arrives(int) throws IndexOutOfBoundsException",
        "public int best(int) throws IndexOutOfBoundsException",
        "public int thaw()",
        "public double mean()",
        "public long digest()",
        "public ()",
    };

    public static void main(String[] args) {
        List<String> due = new ArrayList<>(List.of(FACE));
        List<String> got = new ArrayList<>();
        for (Method method : IceLanes.class.getDeclaredMethods()) {
            if (!Modifier.isPrivate(method.getModifiers())) {
                got.add(Modifier.toString(method.getModifiers()) + " " + method.getReturnType() + " "
                    + method.getName() + listed(method.getParameterTypes()) + thrown(method.getExceptionTypes()));
            }
        }
        for (Constructor<?> made : IceLanes.class.getDeclaredConstructors()) {
            if (!Modifier.isPrivate(made.getModifiers())) {
                got.add(Modifier.toString(made.getModifiers()) + " " + listed(made.getParameterTypes())
                    + thrown(made.getExceptionTypes()));
            }
        }
        for (Field field : IceLanes.class.getDeclaredFields()) {
            if (!Modifier.isPrivate(field.getModifiers())) {
                got.add(field.toString());
            }
        }
        Collections.sort(due);
        Collections.sort(got);
        if (!due.equals(got)) {
            Checks.tell("the face is " + got + ", due is " + due);
        }
        int modifiers = IceLanes.class.getModifiers();
        if (!Modifier.isPublic(modifiers) || !Modifier.isFinal(modifiers)) {
            Checks.tell("the class is not public and final");
        }
        privateNamesAreNotPublicOnes();
        Checks.end();
    }

    private static void privateNamesAreNotPublicOnes() {
        List<String> names = new ArrayList<>();
        for (Method method : IceLanes.class.getMethods()) {
            names.add(method.getName());
        }
        List<Class<?>> classes = new ArrayList<>(List.of(IceLanes.class.getDeclaredClasses()));
        classes.add(IceLanes.class);
        for (Class<?> c : classes) {
            for (Method method : c.getDeclaredMethods()) {
                if (Modifier.isPrivate(method.getModifiers()) && names.contains(method.getName())) {
                    Checks.tell("a private method bears the public name " + method.getName());
                }
            }
        }
    }

    private static String listed(Class<?>[] types) {
        List<String> names = new ArrayList<>();
        for (Class<?> type : types) {
            names.add(type.getSimpleName());
        }
        return "(" + String.join(",", names) + ")";
    }

    private static String thrown(Class<?>[] types) {
        String names = listed(types);
        return types.length == 0 ? "" : " throws " + names.substring(1, names.length() - 1);
    }
}
