import java.lang.reflect.Constructor;
import java.lang.reflect.Method;
import java.lang.reflect.Modifier;
import java.util.Arrays;
import java.util.Set;
import java.util.TreeSet;

/** The public face: exactly the constructor and the methods of the document, with their exceptions. */
public final class FaceTest {
    private static final String[] FACE = {
        "int addAuthor(int,int) IllegalArgumentException IllegalStateException",
        "int type(char) IllegalArgumentException IllegalStateException",
        "int insert(int,int) IndexOutOfBoundsException IllegalArgumentException IllegalStateException"
            + " UnsupportedOperationException",
        "int delete(int,int,int) IndexOutOfBoundsException IllegalStateException UnsupportedOperationException",
        "int move(int,int,int,int) IndexOutOfBoundsException IllegalStateException UnsupportedOperationException",
        "int edits()",
        "char editKind(int) IndexOutOfBoundsException",
        "int editAuthor(int) IndexOutOfBoundsException",
        "int editCost(int) IndexOutOfBoundsException",
        "char refusalReason() NoSuchElementException",
        "int refusalSubject() NoSuchElementException",
        "int length()",
        "char charAt(int) IndexOutOfBoundsException",
        "int authorOf(int) IndexOutOfBoundsException",
        "int clauseOf(int) IndexOutOfBoundsException",
        "int lengthAgain()",
        "char charAgain(int) IndexOutOfBoundsException",
        "int writeText()",
        "int writeClause(int) IndexOutOfBoundsException",
        "char outputAt(int) IndexOutOfBoundsException",
        "int addClause(int,int) IndexOutOfBoundsException IllegalStateException",
        "int clauses()",
        "int clauseLength(int) IndexOutOfBoundsException",
        "boolean lock(int,boolean) IndexOutOfBoundsException",
        "int signers(int) IndexOutOfBoundsException",
        "int sign(int,int) IndexOutOfBoundsException IllegalArgumentException IllegalStateException",
        "int withdraw(int) IndexOutOfBoundsException IllegalStateException",
        "int signatures()",
        "char state(int) IndexOutOfBoundsException",
        "boolean isUntouched(int) IndexOutOfBoundsException",
        "int voidedBy(int) IndexOutOfBoundsException NoSuchElementException",
        "boolean setStrict(boolean)",
        "int setFee(int) IllegalArgumentException",
        "long bill(int) IndexOutOfBoundsException",
        "long billAgain(int) IndexOutOfBoundsException",
        "float share(int) IndexOutOfBoundsException ArithmeticException",
        "double meanCost() ArithmeticException",
        "boolean isConsistent()",
    };

    private static int wrong = 0;

    private static void check(boolean holds, String what) {
        if (!holds) {
            wrong++;
            System.out.println(what);
        }
    }

    private static String names(Class<?>[] classes, String between) {
        StringBuilder text = new StringBuilder();
        for (Class<?> each : classes) {
            text.append(text.length() == 0 ? "" : between).append(each.getSimpleName());
        }
        return text.toString();
    }

    private static String written(Method method) {
        String head = method.getReturnType().getSimpleName() + " " + method.getName()
            + "(" + names(method.getParameterTypes(), ",") + ")";
        return (head + " " + names(method.getExceptionTypes(), " ")).trim();
    }

    public static void main(String[] args) {
        Class<?> face = SignedDocument.class;
        check(Modifier.isPublic(face.getModifiers()), "the class is not public");
        check(Modifier.isFinal(face.getModifiers()), "the class is not final");
        Constructor<?>[] constructors = face.getDeclaredConstructors();
        check(constructors.length == 1 && Modifier.isPublic(constructors[0].getModifiers())
            && constructors[0].getParameterCount() == 0, "not the one public constructor");

        Set<String> due = new TreeSet<>(Arrays.asList(FACE));
        Set<String> publicNames = new TreeSet<>();
        for (Method method : face.getDeclaredMethods()) {
            if (!Modifier.isPrivate(method.getModifiers())) {
                check(Modifier.isPublic(method.getModifiers()) && !Modifier.isStatic(method.getModifiers()),
                    "neither public nor private: " + method);
                check(due.remove(written(method)), "not in the document: " + written(method));
                publicNames.add(method.getName());
            }
        }
        for (String missing : due) {
            check(false, "missing: " + missing);
        }
        for (Method method : face.getDeclaredMethods()) {
            check(!Modifier.isPrivate(method.getModifiers()) || !publicNames.contains(method.getName()),
                "a private method bears a public name: " + method);
        }
        check(face.getFields().length == 0, "a public field");

        System.out.println(wrong == 0 ? "the face is as due" : wrong + " faults in the face");
        if (wrong != 0) System.exit(1);
    }
}
