import java.lang.reflect.Constructor;
import java.lang.reflect.Field;
import java.lang.reflect.Method;
import java.lang.reflect.Modifier;
import java.util.Set;
import java.util.TreeSet;

/** The public face: the members of the document with what they throw, and no others. */
public final class FaceTest {
    private static final String I = "IndexOutOfBoundsException", A = "IllegalArgumentException",
            S = "IllegalStateException", N = "NoSuchElementException";

    private static final String[] METHODS = {
        "int setStart(int) " + A + " " + S, "int addEntry(int,int) " + A + " " + S,
        "int addGate(int,int) " + I + " " + A + " " + S, "int cut(int) " + A, "int enter() " + S,
        "int drive(int,int,int) " + I + " " + A + " " + S, "int stand(int,int) " + I + " " + A + " " + S,
        "void breakDown(int,int) " + I + " " + S, "int mend(int) " + I + " " + S + " " + N,
        "int bring(int,int) " + I + " " + S, "int hand(int,int) " + I + " " + S,
        "int record(int,int,int) " + I + " " + A, "boolean appeal(int,int) " + I + " " + S, "int gates()",
        "int cellOf(int) " + I, "int due(int) " + I, "int followed(int) " + I, "int cellAt(int,int) " + I + " " + A,
        "int clock(int) " + I, "int byTrack(int,int) " + I, "int byMinutes(int,int) " + I, "int time(int,int) " + I,
        "int points(int) " + I, "int table(int) " + I, "int where(int) " + I, "int lent(int) " + I,
        "boolean isBroken(int) " + I};

    public static void main(String[] args) {
        Check check = new Check();
        check.same("NONE", -1, OriginRally.NONE);
        check.same("TENT", -1, OriginRally.TENT);
        check.same("USED_UP", -2, OriginRally.USED_UP);
        check.yes("public and final", Modifier.isPublic(OriginRally.class.getModifiers())
                && Modifier.isFinal(OriginRally.class.getModifiers()));
        check.same("the methods", new TreeSet<>(Set.of(METHODS)), methodsNotPrivate());
        check.same("the fields", new TreeSet<>(Set.of("NONE", "TENT", "USED_UP")), fieldsNotPrivate());
        Constructor<?>[] all = OriginRally.class.getDeclaredConstructors();
        check.same("the constructors", 1, all.length);
        check.same("the constructor's parameters", 0, all[0].getParameterCount());
        check.yes("the constructor is public", Modifier.isPublic(all[0].getModifiers()));
        check.end("FaceTest");
    }

    private static Set<String> methodsNotPrivate() {
        Set<String> found = new TreeSet<>();
        for (Method method : OriginRally.class.getDeclaredMethods()) {
            if (!Modifier.isPrivate(method.getModifiers()) && !method.isSynthetic()) {
                found.add(textOf(method));
            }
        }
        return found;
    }

    private static String textOf(Method method) {
        StringBuilder text = new StringBuilder();
        text.append(method.getReturnType().getSimpleName()).append(' ').append(method.getName()).append('(');
        for (int number = 0; number < method.getParameterCount(); number++) {
            text.append(number == 0 ? "" : ",").append(method.getParameterTypes()[number].getSimpleName());
        }
        text.append(')');
        for (Class<?> thrown : method.getExceptionTypes()) {
            text.append(' ').append(thrown.getSimpleName());
        }
        return text.toString();
    }

    private static Set<String> fieldsNotPrivate() {
        Set<String> found = new TreeSet<>();
        for (Field field : OriginRally.class.getDeclaredFields()) {
            if (!Modifier.isPrivate(field.getModifiers()) && !field.isSynthetic()) {
                found.add(field.getName());
            }
        }
        return found;
    }
}
