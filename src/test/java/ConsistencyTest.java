import java.lang.reflect.Array;
import java.lang.reflect.Field;

/**
 * Promise 39. No call brings an object out of its invariants, so the tests of the answer false spoil what the object
 * keeps, field by field, by reflection. They know the names of the private fields, and have to be changed with them.
 */
public final class ConsistencyTest extends Checks {
    private static final String INVARIANTS = "Checks the invariants: the text that comes from doing all edits again is "
        + "the same, with the same authors and clauses; a signature that is valid is untouched, and one that is void "
        + "is not; and for each author, both bills agree.";

    private static Object part(Object of, String name) {
        try {
            Field field = of.getClass().getDeclaredField(name);
            field.setAccessible(true);
            return field.get(of);
        } catch (ReflectiveOperationException e) {
            throw new AssertionError(e);
        }
    }

    /** Puts another value into a row, asks, and puts the old one back. */
    private static void spoil(SignedDocument d, String part, String row, int index, Object value, boolean want) {
        Object array = part(part(d, part), row);
        Object old = Array.get(array, index);
        due(!old.equals(value), true);
        Array.set(array, index, value);
        due(d.isConsistent(), want);
        Array.set(array, index, old);
        due(d.isConsistent(), true);
    }

    private static void spoilLength(SignedDocument d, int length) {
        Object text = part(d, "present");
        try {
            Field field = text.getClass().getDeclaredField("size");
            field.setAccessible(true);
            int old = field.getInt(text);
            field.setInt(text, length);
            due(d.isConsistent(), false);
            field.setInt(text, old);
            due(d.isConsistent(), true);
        } catch (ReflectiveOperationException e) {
            throw new AssertionError(e);
        }
    }

    /** "[0:ab]cd[1:ef]" by two authors; signature 0 is valid, 1 is void, 2 and 3 are withdrawn, 2 was touched. */
    private static SignedDocument made() {
        SignedDocument d = new SignedDocument();
        d.addAuthor(0, 3);
        d.addAuthor(2, 5);
        for (char each = 'a'; each <= 'f'; each++) d.type(each);
        d.insert(0, 0);
        d.type('x');
        d.insert(1, 6);
        d.addClause(0, 2);
        d.addClause(4, 3);
        d.sign(0, 1);
        d.sign(1, 3);
        d.sign(1, 2);
        d.sign(1, 1);
        d.withdraw(2);
        d.withdraw(3);
        d.setFee(9);
        d.delete(1, 6, 1);
        due(d.isConsistent(), true);
        return d;
    }

    @Sentence(of = "Promise 39", says = INVARIANTS)
    static void anotherTextIsNotConsistent() {
        SignedDocument d = made();
        for (int i : new int[] {0, 3, 5}) spoil(d, "present", "letters", i, 'q', false);
    }

    @Sentence(of = "Promise 39", says = INVARIANTS)
    static void aTextOfAnotherLengthIsNotConsistent() {
        SignedDocument d = made();
        for (int length : new int[] {0, 5, 7}) spoilLength(d, length);
    }

    @Sentence(of = "Promise 39", says = INVARIANTS)
    static void otherAuthorsAreNotConsistent() {
        SignedDocument d = made();
        for (int i : new int[] {0, 3, 5}) spoil(d, "present", "authors", i, 1, false);
    }

    @Sentence(of = "Promise 39", says = INVARIANTS)
    static void otherClausesAreNotConsistent() {
        SignedDocument d = made();
        spoil(d, "present", "clauses", 0, 1, false);
        spoil(d, "present", "clauses", 0, -1, false);
        spoil(d, "present", "clauses", 2, 0, false);
        spoil(d, "present", "clauses", 5, 0, false);
    }

    @Sentence(of = "Promise 39", says = INVARIANTS)
    static void aValidSignatureThatWasTouchedIsNotConsistent() {
        SignedDocument d = made();
        spoil(d, "signatureBook", "states", 1, 'v', false);
        spoil(d, "signatureBook", "states", 2, 'v', false);
        spoil(d, "signatureBook", "states", 3, 'v', true);
    }

    @Sentence(of = "Promise 39", says = INVARIANTS)
    static void aVoidSignatureThatIsUntouchedIsNotConsistent() {
        SignedDocument d = made();
        spoil(d, "signatureBook", "states", 0, 'x', false);
        spoil(d, "signatureBook", "states", 3, 'x', false);
        spoil(d, "signatureBook", "states", 2, 'x', true);
    }

    @Sentence(of = "Promise 39", says = INVARIANTS)
    static void aWithdrawnSignatureIsConsistentTouchedOrNot() {
        SignedDocument d = made();
        spoil(d, "signatureBook", "states", 0, 'w', true);
        spoil(d, "signatureBook", "states", 1, 'w', true);
    }

    @Sentence(of = "Promise 39", says = INVARIANTS)
    static void billsThatDoNotAgreeAreNotConsistent() {
        SignedDocument d = made();
        spoil(d, "authorBook", "bills", 0, 19L, false);
        spoil(d, "authorBook", "bills", 1, 0L, false);
    }

    @Sentence(of = "Promise 39", says = "Returns true if the invariants hold.")
    static void aNewAndAnEmptiedDocumentAreConsistent() {
        due(new Doc().isConsistent(), true);
        Doc d = withThreeClauses();
        for (int i = 0; i < 3; i++) d.sign(0, 1 << i);
        d.delete(0, 0, 11);
        due(d.isConsistent(), true);
    }

    @Sentence(of = "Promise 39", says = "Returns true if the invariants hold.")
    static void aDocumentWithAllLimitsReachedIsConsistent() {
        due(withAllLimitsReached().isConsistent(), true);
        due(withFortyEdits().isConsistent(), true);
    }

    @Sentence(of = "Promise 39", says = "Returns true if the invariants hold.")
    static void aDocumentIsConsistentAfterRefusals() {
        Doc d = withEverything();
        due(d.isConsistent(), true);
        throwsNow(d, REFUSED, x -> x.insert(0, 3));
        throwsNow(d, REFUSED, x -> x.move(0, 8, 1, 0));
        due(d.isConsistent(), true);
        d.setStrict(false);
        d.lock(1, false);
        d.delete(0, 0, 10);
        due(d.isConsistent(), true);
    }

    public static void main(String[] args) {
        run(ConsistencyTest.class);
    }
}
