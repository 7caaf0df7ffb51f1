import java.lang.reflect.Constructor;
import java.lang.reflect.Field;
import java.lang.reflect.Method;
import java.lang.reflect.Modifier;
import java.util.Arrays;
import java.util.Set;
import java.util.TreeSet;

/** The public face: all that the document names, and nothing else. */
public final class FaceTest {
    private static final String[] DUE = {
        "Throughcoach()",
        "int station(int,int) IllegalArgumentException IllegalStateException",
        "int train(int,int,int) IndexOutOfBoundsException IllegalArgumentException IllegalStateException",
        "int stop(int,int,int,int,int) IndexOutOfBoundsException IllegalArgumentException IllegalStateException",
        "int patience(int,int) IndexOutOfBoundsException IllegalArgumentException",
        "int late(int,int,int) IndexOutOfBoundsException IllegalArgumentException",
        "int coach(int,int,int,int,int,int,boolean)"
            + " IndexOutOfBoundsException IllegalArgumentException IllegalStateException",
        "int part(int,int,int) IndexOutOfBoundsException IllegalStateException",
        "int takeOut(int) IndexOutOfBoundsException IllegalStateException",
        "int book(int,boolean,int,int) IndexOutOfBoundsException IllegalArgumentException IllegalStateException",
        "int leave(int) IndexOutOfBoundsException IllegalStateException",
        "void swap(int,int) IndexOutOfBoundsException IllegalArgumentException IllegalStateException",
        "int arrives(int,int) IndexOutOfBoundsException",
        "int leaves(int,int) IndexOutOfBoundsException",
        "int leavesAnew(int,int) IndexOutOfBoundsException",
        "int behind(int,int,int) IndexOutOfBoundsException IllegalArgumentException",
        "float sheet(int,int) IndexOutOfBoundsException",
        "int coachOf(int,int) IndexOutOfBoundsException IllegalArgumentException",
        "int owes(int,int) IllegalArgumentException",
        "int homes()",
        "int best(int) IndexOutOfBoundsException",
        "int personOf(int,int) IndexOutOfBoundsException IllegalArgumentException",
        "int sleeper(int,int,int) IndexOutOfBoundsException IllegalArgumentException",
        "boolean holds(int,boolean,int) IndexOutOfBoundsException IllegalArgumentException",
        "int paid()",
        "NONE = -1",
        "SEATS = 0",
        "BEDS = 1",
        "ROOMS = 2",
    };

    private static String names(Class<?>[] types, String between) {
        StringBuilder text = new StringBuilder();
        for (Class<?> type : types) {
            text.append(text.length() > 0 ? between : "").append(type.getSimpleName());
        }
        return text.toString();
    }

    private static void add(Set<String> face, String head, Class<?>[] parameters, Class<?>[] thrown) {
        String line = head + "(" + names(parameters, ",") + ")";
        face.add(thrown.length == 0 ? line : line + " " + names(thrown, " "));
    }

    private static Set<String> face() throws IllegalAccessException {
        Set<String> face = new TreeSet<>();
        for (Constructor<?> one : Throughcoach.class.getDeclaredConstructors()) {
            add(face, "Throughcoach", one.getParameterTypes(), one.getExceptionTypes());
        }
        for (Method one : Throughcoach.class.getDeclaredMethods()) {
            if (!Modifier.isPrivate(one.getModifiers())) {
                add(face, one.getReturnType() + " " + one.getName(), one.getParameterTypes(), one.getExceptionTypes());
            }
        }
        for (Field one : Throughcoach.class.getDeclaredFields()) {
            if (!Modifier.isPrivate(one.getModifiers())) {
                boolean isConstant = one.getModifiers() == (Modifier.PUBLIC | Modifier.STATIC | Modifier.FINAL);
                face.add(one.getName() + " = " + (isConstant ? one.get(null) : "no constant"));
            }
        }
        return face;
    }

    public static void main(String[] args) throws IllegalAccessException {
        Check check = new Check("FaceTest");
        Set<String> face = face();
        Set<String> due = new TreeSet<>(Arrays.asList(DUE));
        check.due("the face", due.toString(), () -> face.toString());
        check.due("public and final", Modifier.PUBLIC | Modifier.FINAL, () -> Throughcoach.class.getModifiers());
        check.end();
    }
}
