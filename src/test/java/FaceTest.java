import java.lang.reflect.Constructor;
import java.lang.reflect.Field;
import java.lang.reflect.Method;
import java.lang.reflect.Modifier;
import java.util.ArrayList;
import java.util.Arrays;
import java.util.Collections;
import java.util.List;

/** The class shows the face of the document, and nothing else. */
public final class FaceTest {
    private static final String[] METHODS = {"begin 1", "addColumn 1", "dropColumn 1", "put 3", "dropRow 1",
        "dropCopies 0", "sort 0", "factorial 1", "addSum 4", "replace 2", "develop 0", "undo 0", "write 1", "wipe 0",
        "fault 0", "load 0", "told 1", "levels 1", "cell 2", "count 2", "audit 2", "agreement 2", "pairs 1",
        "extension 2", "extend 1", "spare 1", "keep 1", "back 1", "isIsomorphic 1", "mapped 3"};
    private static int wrong = 0;

    public static void main(String[] args) {
        Class<?> face = ArrayBench.class;
        same("the class", Modifier.toString(face.getModifiers()), "public final");
        same("the methods", methods(face), sorted(Arrays.asList(METHODS)));
        same("the constants", fields(face), List.of("BAD", "FULL", "NONE", "STATE"));
        Constructor<?>[] constructors = face.getDeclaredConstructors();
        same("the constructors", constructors.length, 1);
        same("the constructor", constructors[0].toString(), "public ArrayBench()");
        for (Class<?> inside : face.getDeclaredClasses()) {
            same(inside + " is static", Modifier.isStatic(inside.getModifiers()), true);
            same(inside + " is open", inside.getModifiers() & (Modifier.PUBLIC | Modifier.PROTECTED), 0);
            keepsNamesApart(inside, true);
        }
        keepsNamesApart(face, false);
        System.out.println(wrong == 0 ? "the face is as due" : wrong + " differences from the face");
        if (wrong != 0) {
            System.exit(1);
        }
    }

    private static List<String> methods(Class<?> face) {
        List<String> found = new ArrayList<>();
        for (Method method : face.getDeclaredMethods()) {
            if (!Modifier.isPrivate(method.getModifiers())) {
                found.add(method.getName() + " " + method.getParameterCount());
                same(method + " is public", Modifier.toString(method.getModifiers()), "public");
                same(method + " returns", method.getReturnType(), int.class);
                same(method + " takes int", Arrays.stream(method.getParameterTypes()).allMatch(int.class::equals), true);
            }
        }
        return sorted(found);
    }

    private static void keepsNamesApart(Class<?> place, boolean inside) {
        for (Method method : place.getDeclaredMethods()) {
            boolean own = inside || Modifier.isPrivate(method.getModifiers());
            for (String name : METHODS) {
                if (own && name.startsWith(method.getName() + " ")) {
                    same("the name of " + method, "a public method's", "its own");
                }
            }
        }
    }

    private static List<String> fields(Class<?> face) {
        List<String> found = new ArrayList<>();
        for (Field field : face.getDeclaredFields()) {
            if (!Modifier.isPrivate(field.getModifiers())) {
                found.add(field.getName());
                same(field + " is a constant", Modifier.toString(field.getModifiers()), "public static final");
                same(field + " is an int", field.getType(), int.class);
            }
        }
        return sorted(found);
    }

    private static List<String> sorted(List<String> names) {
        List<String> sorted = new ArrayList<>(names);
        Collections.sort(sorted);
        return sorted;
    }

    private static void same(String what, Object got, Object want) {
        if (!got.equals(want)) {
            wrong++;
            System.out.println(what + ": " + got + ", due is " + want);
        }
    }
}
