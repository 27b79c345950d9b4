import java.lang.reflect.Constructor;
import java.lang.reflect.Field;
import java.lang.reflect.Method;
import java.lang.reflect.Modifier;
import java.util.TreeSet;

/** The public face: every signature with its exceptions, and no other member to be seen. */
public final class FaceTest {
    private static final String[] FACE = {
        "int member(int) UnsupportedOperationException",
        "int leave(int) UnsupportedOperationException",
        "int train(int) UnsupportedOperationException",
        "int boat(int,int) UnsupportedOperationException",
        "int call(int,int) UnsupportedOperationException",
        "int borrow(int,int) UnsupportedOperationException",
        "int giveBack(int) UnsupportedOperationException",
        "int limit(int) UnsupportedOperationException",
        "int pass(int) UnsupportedOperationException",
        "int height(int) IllegalArgumentException",
        "int memberOf(int,int) IndexOutOfBoundsException IllegalArgumentException",
        "int boatOf(int,int) IndexOutOfBoundsException IllegalArgumentException",
        "int crew(int) IndexOutOfBoundsException",
        "int able()",
        "int wouldGo(int) IndexOutOfBoundsException NoSuchElementException",
        "int weariness(int) IndexOutOfBoundsException NoSuchElementException",
        "int wearinessAgain(int) IndexOutOfBoundsException NoSuchElementException",
        "int wouldRefuse(int) IndexOutOfBoundsException",
        "int callableIn(int) IndexOutOfBoundsException NoSuchElementException",
        "int homeIn(int) IndexOutOfBoundsException NoSuchElementException",
        "int homeInAgain(int) IndexOutOfBoundsException NoSuchElementException",
        "int loanOf(int,int) IndexOutOfBoundsException IllegalArgumentException",
        "int free()",
        "int least(int) NoSuchElementException",
        "int busiest(int) NoSuchElementException",
        "int append(char) IllegalStateException",
        "int commands() IllegalArgumentException UnsupportedOperationException",
        "int faultPosition()",
        "int reason(boolean,boolean) NoSuchElementException",
        "int line(int) IndexOutOfBoundsException",
        "char character(int) IndexOutOfBoundsException",
        "double meanWeariness() ArithmeticException",
        "float outShare()",
        "int account(int) IllegalArgumentException",
        "int undo() IllegalStateException",
        "int save()",
        "int restore() IllegalStateException",
    };

    public static void main(String[] args) {
        Check.same("the class is public and final", Modifier.PUBLIC | Modifier.FINAL,
                BoatRota.class.getModifiers());
        methods();
        constructors();
        fields();
        Check.end("FaceTest");
    }

    private static void methods() {
        TreeSet<String> due = new TreeSet<>(java.util.List.of(FACE));
        TreeSet<String> there = new TreeSet<>();
        TreeSet<String> publicNames = new TreeSet<>();
        for (Method method : BoatRota.class.getDeclaredMethods()) {
            if (Modifier.isPublic(method.getModifiers())) {
                there.add(signature(method));
                publicNames.add(method.getName());
            }
        }
        Check.same("the public methods", due.toString(), there.toString());
        for (Method method : BoatRota.class.getDeclaredMethods()) {
            int modifiers = method.getModifiers();
            if (!Modifier.isPublic(modifiers)) {
                Check.same(method + " is private", 1, Modifier.isPrivate(modifiers) ? 1 : 0);
                Check.same(method + " has a name of its own", 0,
                        publicNames.contains(method.getName()) ? 1 : 0);
            }
        }
    }

    private static String signature(Method method) {
        StringBuilder out = new StringBuilder(method.getReturnType().getName());
        out.append(' ').append(method.getName()).append('(');
        for (Class<?> type : method.getParameterTypes()) {
            out.append(type.getName()).append(',');
        }
        if (method.getParameterCount() > 0) {
            out.setLength(out.length() - 1);
        }
        out.append(')');
        for (Class<?> type : method.getExceptionTypes()) {
            out.append(' ').append(type.getSimpleName());
        }
        return out.toString();
    }

    private static void constructors() {
        Constructor<?>[] all = BoatRota.class.getDeclaredConstructors();
        Check.same("the constructors", 1, all.length);
        Check.same("the constructor is public", Modifier.PUBLIC, all[0].getModifiers());
        Check.same("its parameters", 0, all[0].getParameterCount());
    }

    private static void fields() {
        for (Field field : BoatRota.class.getDeclaredFields()) {
            int modifiers = field.getModifiers();
            Check.same(field + " is private", 1, Modifier.isPrivate(modifiers) ? 1 : 0);
            if (Modifier.isStatic(modifiers)) {
                Check.same(field + " is final", 1, Modifier.isFinal(modifiers) ? 1 : 0);
            }
        }
    }
}
