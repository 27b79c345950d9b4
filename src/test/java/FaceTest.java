import java.lang.reflect.Constructor;
import java.lang.reflect.Field;
import java.lang.reflect.Method;
import java.lang.reflect.Modifier;
import java.util.List;
import java.util.TreeSet;
import java.util.regex.Matcher;
import java.util.regex.Pattern;

/** The public face: every signature with its exceptions, and no other member to be seen. */
public final class FaceTest {
    private static final String[] FACE = {
        "int member(int) UnsupportedOperationException",
        "int leave(int) UnsupportedOperationException",
        "int train(int) UnsupportedOperationException",
        "int boat(int,int) UnsupportedOperationException",
        "int call(int,int) UnsupportedOperationException",
        "int borrow(int,int) UnsupportedOperationException",
        "int giveBack(int) UnsupportedOperationException",
        "int limit(int) UnsupportedOperationException",
        "int pass(int) UnsupportedOperationException",
        "int height(int) IllegalArgumentException",
        "int memberOf(int,int) IndexOutOfBoundsException IllegalArgumentException",
        "int boatOf(int,int) IndexOutOfBoundsException IllegalArgumentException",
        "int crew(int) IndexOutOfBoundsException",
        "int able()",
        "int wouldGo(int) IndexOutOfBoundsException NoSuchElementException",
        "int weariness(int) IndexOutOfBoundsException NoSuchElementException",
        "int wearinessAgain(int) IndexOutOfBoundsException NoSuchElementException",
        "int wouldRefuse(int) IndexOutOfBoundsException",
        "int callableIn(int) IndexOutOfBoundsException NoSuchElementException",
        "int homeIn(int) IndexOutOfBoundsException NoSuchElementException",
        "int homeInAgain(int) IndexOutOfBoundsException NoSuchElementException",
        "int loanOf(int,int) IndexOutOfBoundsException IllegalArgumentException",
        "int free()",
        "int least(int) NoSuchElementException",
        "int busiest(int) NoSuchElementException",
        "int append(char) IllegalStateException",
        "int commands() IllegalArgumentException UnsupportedOperationException",
        "int faultPosition()",
        "int reason(boolean,boolean) NoSuchElementException",
        "int line(int) IndexOutOfBoundsException",
        "char character(int) IndexOutOfBoundsException",
        "double meanWeariness() ArithmeticException",
        "float outShare()",
        "int account(int) IllegalArgumentException",
        "int undo() IllegalStateException",
        "int save()",
        "int restore() IllegalStateException",
    };

    private static final Pattern SIGNATURE =
            Pattern.compile("(\\w+ \\w+)\\((.*?)\\)(?: throws ([\\w, ]+))?");

    public static void main(String[] args) {
        inTheDocument();
        Check.same("the class is public and final", Modifier.PUBLIC | Modifier.FINAL,
                BoatRota.class.getModifiers());
        methods();
        constructors();
        fields();
        classesInside();
        Check.end("FaceTest");
    }

    /** FACE is the document's, both in "The public face" and promise by promise. */
    private static void inTheDocument() {
        TreeSet<String> face = new TreeSet<>();
        String constructor = "";
        for (String line : Document.lines("The public face")) {
            if (line.equals("    public BoatRota();")) {
                constructor += line.trim();
            } else if (line.startsWith("    ")) {
                face.add(signature(line.replaceFirst("^ {4}public ", "")));
            }
        }
        Check.same("the constructor of the document", "public BoatRota();", constructor);
        Check.same("the face of the document", new TreeSet<>(List.of(FACE)).toString(),
                face.toString());
        for (int k = 0; k < FACE.length; k++) {
            // Promise 1 is the constructor.
            Check.same("the signature of promise " + (k + 2), FACE[k],
                    signatureOfPromise(k + 2));
        }
    }

    private static String signatureOfPromise(int number) {
        for (String line : Document.lines("Promise " + number)) {
            if (line.startsWith("`")) {
                return signature(line.substring(1));
            }
        }
        return "none";
    }

    /** The types alone, as they are written in FACE. */
    private static String signature(String written) {
        Matcher matcher = SIGNATURE.matcher(written);
        if (!matcher.lookingAt()) {
            return "no signature: " + written;
        }
        String thrown = matcher.group(3) == null ? "" : " " + matcher.group(3).replace(",", "");
        return matcher.group(1) + "(" + matcher.group(2).replaceAll("(\\w+) \\w+", "$1")
                .replace(", ", ",") + ")" + thrown;
    }

    private static void methods() {
        TreeSet<String> due = new TreeSet<>(List.of(FACE));
        TreeSet<String> there = new TreeSet<>();
        TreeSet<String> publicNames = new TreeSet<>();
        for (Method method : BoatRota.class.getDeclaredMethods()) {
            if (Modifier.isPublic(method.getModifiers())) {
                there.add(signature(method));
                publicNames.add(method.getName());
            }
        }
        Check.same("the public methods", due.toString(), there.toString());
        for (Method method : BoatRota.class.getDeclaredMethods()) {
            int modifiers = method.getModifiers();
            if (!Modifier.isPublic(modifiers)) {
                Check.same(method + " is private", 1, Modifier.isPrivate(modifiers) ? 1 : 0);
                Check.same(method + " has a name of its own", 0,
                        publicNames.contains(method.getName()) ? 1 : 0);
            }
        }
    }

    private static String signature(Method method) {
        StringBuilder out = new StringBuilder(method.getReturnType().getName());
        out.append(' ').append(method.getName()).append('(');
        for (Class<?> type : method.getParameterTypes()) {
            out.append(type.getName()).append(',');
        }
        if (method.getParameterCount() > 0) {
            out.setLength(out.length() - 1);
        }
        out.append(')');
        for (Class<?> type : method.getExceptionTypes()) {
            out.append(' ').append(type.getSimpleName());
        }
        return out.toString();
    }

    private static void constructors() {
        Constructor<?>[] all = BoatRota.class.getDeclaredConstructors();
        Check.same("the constructors", 1, all.length);
        Check.same("the constructor is public", Modifier.PUBLIC, all[0].getModifiers());
        Check.same("its parameters", 0, all[0].getParameterCount());
    }

    private static void fields() {
        for (Field field : BoatRota.class.getDeclaredFields()) {
            int modifiers = field.getModifiers();
            Check.same(field + " is private", 1, Modifier.isPrivate(modifiers) ? 1 : 0);
            if (Modifier.isStatic(modifiers)) {
                Check.same(field + " is final", 1, Modifier.isFinal(modifiers) ? 1 : 0);
            }
        }
    }

    private static void classesInside() {
        for (Class<?> inside : BoatRota.class.getDeclaredClasses()) {
            int open = inside.getModifiers() & (Modifier.PUBLIC | Modifier.PROTECTED);
            Check.same(inside + " is not to be seen", 0, open);
            Check.same(inside + " is static", 1,
                    Modifier.isStatic(inside.getModifiers()) ? 1 : 0);
        }
    }
}
