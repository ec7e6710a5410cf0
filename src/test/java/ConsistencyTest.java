import java.lang.reflect.Array;
import java.lang.reflect.Field;

/**
 * Promise 39 from the other side: no call brings an object out of its invariants, so this test
 * spoils what the object keeps, field by field, and isConsistent must say so. It knows the names
 * of the private fields, and has to be changed with them.
 */
public final class ConsistencyTest {
    private static int wrong = 0;

    private static Object field(Object of, String name) throws ReflectiveOperationException {
        Field field = of.getClass().getDeclaredField(name);
        field.setAccessible(true);
        return field.get(of);
    }

    private static void due(boolean got, boolean want, String what) {
        if (got != want) {
            wrong++;
            System.out.println(what + ": answered " + got + ", due is " + want);
        }
    }

    /** Puts another value into a row, asks, and puts the old one back. */
    private static void spoil(SignedDocument d, String part, String row, int index, Object value, boolean want)
            throws ReflectiveOperationException {
        Object array = field(field(d, part), row);
        Object old = Array.get(array, index);
        String what = part + "." + row + "[" + index + "] = " + value;
        due(!old.equals(value), true, what + " is another value");
        Array.set(array, index, value);
        due(d.isConsistent(), want, what);
        Array.set(array, index, old);
        due(d.isConsistent(), true, what + " put back");
    }

    private static void spoilSize(SignedDocument d, int size) throws ReflectiveOperationException {
        Object text = field(d, "present");
        Field field = text.getClass().getDeclaredField("size");
        field.setAccessible(true);
        int old = field.getInt(text);
        field.setInt(text, size);
        due(d.isConsistent(), false, "present.size = " + size);
        field.setInt(text, old);
        due(d.isConsistent(), true, "present.size put back");
    }

    /** "[0:ab]cd[1:ef]" by two authors; signature 0 is valid, 1 is void, 2 and 3 are withdrawn. */
    private static SignedDocument made() {
        SignedDocument d = new SignedDocument();
        d.addAuthor(0, 3);
        d.addAuthor(2, 5);
        for (char each = 'a'; each <= 'f'; each++) d.type(each);
        d.insert(0, 0);
        d.type('x');
        d.insert(1, 6);
        d.addClause(0, 2);
        d.addClause(4, 3);
        d.sign(0, 1);
        d.sign(1, 3);
        d.sign(1, 2);
        d.sign(1, 1);
        d.withdraw(2);
        d.withdraw(3);
        d.setFee(9);
        d.delete(1, 6, 1);
        return d;
    }

    public static void main(String[] args) throws ReflectiveOperationException {
        SignedDocument d = made();
        due(d.isConsistent(), true, "as it was made");
        for (int i : new int[] {0, 3, 5}) {
            spoil(d, "present", "letters", i, 'q', false);
            spoil(d, "present", "authors", i, 1, false);
        }
        spoil(d, "present", "clauses", 0, 1, false);
        spoil(d, "present", "clauses", 0, -1, false);
        spoil(d, "present", "clauses", 2, 0, false);
        spoil(d, "present", "clauses", 5, 0, false);
        spoilSize(d, 5);
        spoilSize(d, 7);
        spoilSize(d, 0);
        spoil(d, "authorBook", "bills", 0, 19L, false);
        spoil(d, "authorBook", "bills", 1, 0L, false);
        spoil(d, "signatureBook", "states", 0, 'x', false);
        spoil(d, "signatureBook", "states", 1, 'v', false);
        spoil(d, "signatureBook", "states", 0, 'w', true);
        spoil(d, "signatureBook", "states", 1, 'w', true);
        spoil(d, "signatureBook", "states", 2, 'x', true);
        spoil(d, "signatureBook", "states", 2, 'v', false);
        spoil(d, "signatureBook", "states", 3, 'v', true);
        spoil(d, "signatureBook", "states", 3, 'x', false);
        System.out.println(wrong == 0 ? "all answers are as due" : wrong + " answers are not as due");
        if (wrong != 0) System.exit(1);
    }
}
