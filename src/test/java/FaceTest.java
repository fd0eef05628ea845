import java.lang.reflect.Constructor;
import java.lang.reflect.Field;
import java.lang.reflect.Member;
import java.lang.reflect.Method;
import java.lang.reflect.Modifier;
import java.util.Arrays;
import java.util.Set;
import java.util.TreeSet;

/** The public face and its constants, and LANGUAGE.md's rules 1 and 5 on what else the class may hold. */
final class FaceTest {
    private static final String INDEX = "IndexOutOfBoundsException";
    private static final String ARGUMENT = "IllegalArgumentException";
    private static final String STATE = "IllegalStateException";
    private static final String MISSING = "NoSuchElementException";

    public static void main(String[] args) {
        constants();
        constructors();
        methods();
        nothingElse();
        Check.end();
    }

    private static void constants() {
        Check.due("NONE", Obligary.NONE, -1);
        Check.due("EVERY", Obligary.EVERY, 0);
        Check.due("MONTHLY", Obligary.MONTHLY, 1);
        Check.due("NTH", Obligary.NTH, 2);
        Check.due("LAST", Obligary.LAST, 3);
        Check.due("FOLLOWING", Obligary.FOLLOWING, 0);
        Check.due("PRECEDING", Obligary.PRECEDING, 1);
        Check.due("SKIP", Obligary.SKIP, 2);
        Set<String> names = new TreeSet<>();
        for (Field field : Obligary.class.getDeclaredFields()) {
            if (!Modifier.isPrivate(field.getModifiers())) {
                names.add(field.getName());
            }
        }
        Set<String> want = new TreeSet<>(
                Arrays.asList("NONE", "EVERY", "MONTHLY", "NTH", "LAST", "FOLLOWING", "PRECEDING", "SKIP"));
        Check.due("the public fields are " + want + ", found " + names, names.equals(want), true);
    }

    private static void constructors() {
        Constructor<?>[] all = Obligary.class.getDeclaredConstructors();
        Check.due("number of constructors", all.length, 1);
        Check.due("the constructor takes nothing", all[0].getParameterCount(), 0);
        Check.due("the constructor is public", Modifier.isPublic(all[0].getModifiers()), true);
        Check.due("the class is public and final", Obligary.class.getModifiers(), Modifier.PUBLIC | Modifier.FINAL);
    }

    private static void methods() {
        Set<String> want = new TreeSet<>();
        want.add(face("boolean", "holiday", 1, INDEX));
        want.add(face("boolean", "isWorking", 1, INDEX));
        want.add(face("int", "workingDays", 2, INDEX, ARGUMENT));
        want.add(face("int", "pass", 1, ARGUMENT, STATE));
        want.add(face("int", "today", 0));
        want.add(face("int", "addRule", 6, INDEX, ARGUMENT, STATE));
        want.add(face("int", "setShift", 2, INDEX, ARGUMENT));
        want.add(face("boolean", "require", 2, INDEX, STATE));
        want.add(face("int", "rules", 0));
        want.add(face("int", "dueDay", 2, INDEX));
        want.add(face("int", "duties", 1, INDEX));
        want.add(face("int", "nextDue", 2, INDEX));
        want.add(face("int", "nextDueByWalking", 2, INDEX));
        want.add(face("int", "upcoming", 2, INDEX));
        want.add(face("int", "finish", 1, INDEX, MISSING, STATE));
        want.add(face("int", "open", 1, INDEX));
        want.add(face("int", "finished", 1, INDEX));
        want.add(face("int", "blockedBy", 1, INDEX));
        want.add(face("int", "overdue", 0));
        want.add(face("int", "order", 2, INDEX));
        want.add(face("boolean", "isCovered", 2, INDEX));
        want.add(face("int", "lasts", 1, INDEX, MISSING));
        want.add(face("int", "load", 1, INDEX));
        want.add(face("int", "heaviest", 2, INDEX, ARGUMENT));
        want.add(face("int", "level", 3, INDEX, ARGUMENT));
        want.add(face("int", "levelled", 4, INDEX, ARGUMENT));
        Set<String> got = new TreeSet<>();
        for (Method method : Obligary.class.getDeclaredMethods()) {
            if (!Modifier.isPrivate(method.getModifiers())) {
                got.add(faceOf(method));
            }
        }
        Check.due("the public methods are " + want + ", found " + got, got.equals(want), true);
    }

    private static String face(String type, String name, int parameters, String... exceptions) {
        return type + " " + name + " " + parameters + " " + Arrays.toString(exceptions);
    }

    private static String faceOf(Method method) {
        Class<?>[] exceptions = method.getExceptionTypes();
        String[] names = new String[exceptions.length];
        for (int i = 0; i < names.length; i++) {
            names[i] = exceptions[i].getSimpleName();
        }
        boolean plain = method.getModifiers() == Modifier.PUBLIC;
        for (Class<?> parameter : method.getParameterTypes()) {
            plain = plain && parameter == int.class;
        }
        return (plain ? "" : "not plain: ")
                + face(method.getReturnType().getName(), method.getName(), method.getParameterCount(), names);
    }

    private static void nothingElse() {
        Set<String> publicNames = new TreeSet<>();
        for (Method method : Obligary.class.getMethods()) {
            publicNames.add(method.getName());
        }
        for (Method method : Obligary.class.getDeclaredMethods()) {
            boolean isHidden = Modifier.isPrivate(method.getModifiers());
            Check.due("private " + method.getName() + " bears a public name",
                    isHidden && publicNames.contains(method.getName()), false);
        }
        staticsAreFinal(Obligary.class);
        Class<?>[] inside = Obligary.class.getDeclaredClasses();
        Check.due("at most a dozen classes", inside.length < 12, true);
        for (Class<?> nested : inside) {
            Check.due(nested + " is static", Modifier.isStatic(nested.getModifiers()), true);
            Check.due(nested + " is hidden", isHidden(nested.getModifiers()), true);
            staticsAreFinal(nested);
        }
    }

    private static boolean isHidden(int modifiers) {
        return !Modifier.isPublic(modifiers) && !Modifier.isProtected(modifiers);
    }

    private static void staticsAreFinal(Class<?> holder) {
        for (Member member : holder.getDeclaredFields()) {
            int modifiers = member.getModifiers();
            Check.due(holder + "." + member.getName() + " is final if static",
                    !Modifier.isStatic(modifiers) || Modifier.isFinal(modifiers), true);
        }
    }
}
