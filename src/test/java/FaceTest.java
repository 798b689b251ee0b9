import java.lang.reflect.Constructor;
import java.lang.reflect.Field;
import java.lang.reflect.Method;
import java.lang.reflect.Modifier;
import java.util.ArrayList;
import java.util.Arrays;
import java.util.Collections;
import java.util.HashSet;
import java.util.List;
import java.util.Set;

/** The class has the document's face and nothing else that can be seen. */
public final class FaceTest {
    static final String[] METHODS = {
        "int addState() throws IllegalStateException",
        "int step(int, int, int) throws IndexOutOfBoundsException",
        "boolean unstep(int, int) throws IndexOutOfBoundsException",
        "int rename(int, int) throws IndexOutOfBoundsException, IllegalStateException",
        "int stateCount()",
        "int target(int, int) throws IndexOutOfBoundsException",
        "int enabled(int) throws IndexOutOfBoundsException",
        "int reached()",
        "int distance(int) throws IndexOutOfBoundsException",
        "int crossing(int, int) throws IllegalArgumentException, IndexOutOfBoundsException",
        "boolean isRegion(int) throws IllegalArgumentException",
        "int regionCount()",
        "int region(int) throws IndexOutOfBoundsException",
        "boolean isLeast(int) throws IndexOutOfBoundsException",
        "int grow(int) throws IllegalArgumentException",
        "int apart(int, int) throws IndexOutOfBoundsException",
        "int preventer(int, int) throws IndexOutOfBoundsException",
        "int lumps()",
        "int leaks()",
        "double fidelity()",
        "int makeNet()",
        "boolean hasNet()",
        "int placeRegion(int) throws IllegalStateException, IndexOutOfBoundsException",
        "int consumed(int) throws IllegalStateException, IndexOutOfBoundsException",
        "int produced(int) throws IllegalStateException, IndexOutOfBoundsException",
        "int marking() throws IllegalStateException",
        "int fire(int) throws IllegalStateException, IndexOutOfBoundsException",
        "int markingCount() throws IllegalStateException",
        "int markingAt(int) throws IllegalStateException, IndexOutOfBoundsException",
        "boolean isFaithful() throws IllegalStateException",
        "long digest()",
    };

    private static final Due DUE = new Due("FaceTest");

    public static void main(String[] args) {
        Class<?> face = RegionNets.class;
        DUE.is("modifiers", face.getModifiers(), Modifier.PUBLIC | Modifier.FINAL);
        lookAtMethods(face);
        lookAtConstructors(face);
        lookAtFields(face);
        for (Class<?> inside : face.getDeclaredClasses()) {
            DUE.is(inside.getName() + " is static", Modifier.isStatic(inside.getModifiers()), true);
            DUE.is(inside.getName() + " is public", Modifier.isPublic(inside.getModifiers()), false);
            lookAtFields(inside);
        }
        DUE.end();
    }

    static String told(Method method) {
        StringBuilder text = new StringBuilder();
        text.append(method.getReturnType().getSimpleName()).append(' ').append(method.getName());
        text.append('(').append(names(method.getParameterTypes())).append(')');
        if (method.getExceptionTypes().length > 0) {
            text.append(" throws ").append(names(method.getExceptionTypes()));
        }
        return text.toString();
    }

    private static String names(Class<?>[] types) {
        List<String> names = new ArrayList<>();
        for (Class<?> type : types) {
            names.add(type.getSimpleName());
        }
        return String.join(", ", names);
    }

    private static void lookAtMethods(Class<?> face) {
        List<String> seen = new ArrayList<>();
        List<String> wanted = new ArrayList<>(Arrays.asList(METHODS));
        Set<String> names = new HashSet<>();
        for (Method method : face.getDeclaredMethods()) {
            if (!Modifier.isPrivate(method.getModifiers())) {
                seen.add(told(method));
                names.add(method.getName());
                DUE.is(method + " modifiers", method.getModifiers(), Modifier.PUBLIC);
            }
        }
        Collections.sort(seen);
        Collections.sort(wanted);
        DUE.isText("methods", seen.toString(), wanted.toString());
        lookAtPrivateNames(face, names);
        for (Class<?> inside : face.getDeclaredClasses()) {
            lookAtPrivateNames(inside, names);
        }
    }

    private static void lookAtPrivateNames(Class<?> one, Set<String> names) {
        for (Method method : one.getDeclaredMethods()) {
            boolean twice = names.contains(method.getName()) && !Modifier.isPublic(method.getModifiers());
            DUE.is(method + " bears the name of a public one", twice, false);
        }
    }

    private static void lookAtConstructors(Class<?> face) {
        Constructor<?>[] all = face.getDeclaredConstructors();
        DUE.is("number of constructors", all.length, 1);
        DUE.is("modifiers of the constructor", all[0].getModifiers(), Modifier.PUBLIC);
        DUE.is("parameters of the constructor", all[0].getParameterCount(), 0);
    }

    private static void lookAtFields(Class<?> one) {
        for (Field field : one.getDeclaredFields()) {
            int modifiers = field.getModifiers();
            DUE.is(field + " is private", Modifier.isPrivate(modifiers), true);
            boolean changing = Modifier.isStatic(modifiers) && !Modifier.isFinal(modifiers);
            DUE.is(field + " is static and not final", changing, false);
        }
    }
}
