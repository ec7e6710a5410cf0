/** Promises 1 to 12: the boundary cases, each with a test of its own that names its sentence. */
public final class EditsTest extends Checks {

    // ---- Promise 1: A new object

    private static final String NEW = "Creates a document with an empty text, without authors, clauses and signatures.";

    @Sentence(of = "Promise 1", says = NEW)
    static void aNewDocumentHasAnEmptyText() {
        Doc d = new Doc();
        due(d.length(), 0);
        due(d.lengthAgain(), 0);
        due(d.writeText(), 0);
        throwsNow(d, INDEX, x -> x.charAt(0));
        throwsNow(d, INDEX, x -> x.charAgain(0));
        due(d.isConsistent(), true);
    }

    @Sentence(of = "Promise 1", says = NEW)
    static void aNewDocumentHasNoAuthors() {
        Doc d = new Doc();
        d.type('x');
        throwsNow(d, INDEX, x -> x.insert(0, 0));
        throwsNow(d, INDEX, x -> x.bill(0));
        due(d.addAuthor(0, 0), 0);
    }

    @Sentence(of = "Promise 1", says = NEW)
    static void aNewDocumentHasNoClausesAndNoEdits() {
        Doc d = new Doc();
        due(d.clauses(), 0);
        throwsNow(d, INDEX, x -> x.clauseLength(0));
        due(d.edits(), 0);
        throwsNow(d, INDEX, x -> x.editKind(0));
    }

    @Sentence(of = "Promise 1", says = NEW)
    static void aNewDocumentHasNoSignatures() {
        Doc d = new Doc();
        due(d.signatures(), 0);
        throwsNow(d, INDEX, x -> x.state(0));
    }

    @Sentence(of = "Promise 1", says = NEW)
    static void twoDocumentsShareNothing() {
        Doc one = withAllLimitsReached();
        Doc other = new Doc();
        due(whole(other), whole(new Doc()));
        put(with("q"), 0, 0, "r");
        due(plain(one), plainAgain(one));
        due(one.length(), 60);
    }

    // ---- Promise 2: addAuthor

    @Sentence(of = "Promise 2", says = "- `scheme`: the scheme, 0 to 3")
    static void theSchemesFrom0To3() {
        int[] costs = {30, 10, 30, 30};
        for (int scheme = 0; scheme < 4; scheme++) {
            Doc d = new Doc();
            due(d.addAuthor(scheme, 10), 0);
            put(d, 0, 0, "abc");
            due(d.editCost(0), costs[scheme]);
        }
    }

    @Sentence(of = "Promise 2", says = "- `rate`: the rate, 0 to 999")
    static void theRatesFrom0To999() {
        for (int rate : new int[] {0, 1, 998, 999}) {
            Doc d = new Doc();
            due(d.addAuthor(1, rate), 0);
            put(d, 0, 0, "abc");
            due(d.editCost(0), rate);
        }
    }

    @Sentence(of = "Promise 2", says = "Returns the number of the author.")
    static void theAuthorsAreNumberedFrom0To4() {
        Doc d = new Doc();
        for (int i = 0; i < 5; i++) due(d.addAuthor(0, 0), i);
    }

    private static final String OUT_OF_RANGE = "Throws `IllegalArgumentException` if a number is out of range";

    @Sentence(of = "Promise 2", says = OUT_OF_RANGE)
    static void aSchemeBelow0() {
        fails(new Doc(), ARGUMENT, x -> x.addAuthor(-1, 5));
        fails(new Doc(), ARGUMENT, x -> x.addAuthor(LEAST, 5));
    }

    @Sentence(of = "Promise 2", says = OUT_OF_RANGE)
    static void aSchemeAbove3() {
        fails(new Doc(), ARGUMENT, x -> x.addAuthor(4, 5));
        fails(new Doc(), ARGUMENT, x -> x.addAuthor(GREATEST, 5));
    }

    @Sentence(of = "Promise 2", says = OUT_OF_RANGE)
    static void aRateBelow0() {
        fails(new Doc(), ARGUMENT, x -> x.addAuthor(0, -1));
        fails(new Doc(), ARGUMENT, x -> x.addAuthor(3, LEAST));
    }

    @Sentence(of = "Promise 2", says = OUT_OF_RANGE)
    static void aRateAbove999() {
        fails(new Doc(), ARGUMENT, x -> x.addAuthor(0, 1000));
        fails(new Doc(), ARGUMENT, x -> x.addAuthor(3, GREATEST));
    }

    @Sentence(of = "Promise 2", says = "Throws `IllegalStateException` if there are 5 authors")
    static void aSixthAuthor() {
        Doc d = new Doc();
        for (int i = 0; i < 4; i++) d.addAuthor(i, i);
        due(d.addAuthor(0, 999), 4);
        fails(d, STATE, x -> x.addAuthor(0, 0));
        fails(d, STATE, x -> x.addAuthor(3, 999));
    }

    // ---- Promise 3: type

    @Sentence(of = "Promise 3", says = "Appends a character to the text buffer, which is initially empty.")
    static void theBufferIsEmptyAtFirst() {
        Doc d = new Doc();
        d.addAuthor(0, 0);
        fails(d, ARGUMENT, x -> x.insert(0, 0));
        due(d.type('a'), 1);
        due(d.insert(0, 0), 1);
        due(plain(d), "a");
    }

    @Sentence(of = "Promise 3", says = "Appends a character to the text buffer, which is initially empty.")
    static void theCharactersComeInTheOrderOfTyping() {
        Doc d = new Doc();
        d.addAuthor(0, 0);
        put(d, 0, 0, "the lazy dog");
        due(plain(d), "the lazy dog");
    }

    @Sentence(of = "Promise 3", says = "Returns the number of characters in the buffer afterwards.")
    static void typedCharactersAreCountedFrom1To20() {
        Doc d = new Doc();
        for (int i = 1; i <= 20; i++) due(d.type('x'), i);
    }

    private static final String NO_CHARACTER = "Throws `IllegalArgumentException` if the character is neither a letter "
        + "from 'a' to 'z' nor a blank";

    @Sentence(of = "Promise 3", says = NO_CHARACTER)
    static void theLettersAAndZAndTheBlankAreTaken() {
        Doc d = new Doc();
        due(d.type('a'), 1);
        due(d.type('z'), 2);
        due(d.type(' '), 3);
    }

    @Sentence(of = "Promise 3", says = NO_CHARACTER)
    static void theCharactersBesideTheLetters() {
        fails(new Doc(), ARGUMENT, x -> x.type((char) ('a' - 1)));
        fails(new Doc(), ARGUMENT, x -> x.type((char) ('z' + 1)));
    }

    @Sentence(of = "Promise 3", says = NO_CHARACTER)
    static void theCharactersBesideTheBlank() {
        fails(new Doc(), ARGUMENT, x -> x.type((char) (' ' - 1)));
        fails(new Doc(), ARGUMENT, x -> x.type((char) (' ' + 1)));
    }

    /** Also those whose lowest bits are a letter's. */
    @Sentence(of = "Promise 3", says = NO_CHARACTER)
    static void otherCharacters() {
        for (int each : new int[] {0, 9, 10, '0', 'A', 'Z', '[', 160, 228, 255, 'a' + 128, 'a' + 256, 65535}) {
            fails(new Doc(), ARGUMENT, x -> x.type((char) each));
        }
    }

    @Sentence(of = "Promise 3", says = "Throws `IllegalStateException` if the buffer contains 20 characters")
    static void a21stCharacter() {
        Doc d = new Doc();
        d.addAuthor(0, 0);
        typeAll(d, "x".repeat(19));
        due(d.type('y'), 20);
        fails(d, STATE, x -> x.type('z'));
        fails(d, STATE, x -> x.type(' '));
        due(d.insert(0, 0), 20);
        due(plain(d), "x".repeat(19) + "y");
        due(d.type('z'), 1);
    }

    // ---- Promise 4: insert

    @Sentence(of = "Promise 4", says = "Inserts the characters of the text buffer, which is empty afterwards.")
    static void theBufferIsEmptyAfterwards() {
        Doc d = with("a");
        fails(d, ARGUMENT, x -> x.insert(0, 0));
        due(d.type('b'), 1);
        due(d.insert(0, 1), 2);
        due(plain(d), "ab");
    }

    @Sentence(of = "Promise 4", says = "Inserts the characters of the text buffer, which is empty afterwards.")
    static void oneCharacterAndTwenty() {
        Doc d = with("a");
        due(put(d, 0, 1, "b".repeat(20)), 21);
        due(plain(d), "a" + "b".repeat(20));
    }

    private static final String POSITION = "- `position`: the position of the first inserted character afterwards, "
        + "0 to the length of the text";

    @Sentence(of = "Promise 4", says = POSITION)
    static void atThePosition0() {
        Doc d = with("ab");
        put(d, 0, 0, "xy");
        due(plain(d), "xyab");
    }

    @Sentence(of = "Promise 4", says = POSITION)
    static void atTheLengthOfTheText() {
        Doc d = with("ab");
        put(d, 0, 2, "xy");
        due(plain(d), "abxy");
        put(d, 0, 1, "z");
        due(plain(d), "azbxy");
    }

    @Sentence(of = "Promise 4", says = "Returns the length of the text afterwards.")
    static void insertReturnsTheLength() {
        Doc d = with("ab");
        due(put(d, 0, 0, "x"), 3);
        due(put(d, 0, 0, "x".repeat(20)), 23);
        due(d.length(), 23);
    }

    private static final String NO_AUTHOR_OR_POSITION = "Throws `IndexOutOfBoundsException` if there is no such author "
        + "or no such position";

    @Sentence(of = "Promise 4", says = NO_AUTHOR_OR_POSITION)
    static void insertByNoSuchAuthor() {
        Doc d = with("ab");
        d.addAuthor(1, 1);
        d.type('x');
        for (int bad : new int[] {-1, 2, 4, 5, LEAST, GREATEST}) fails(d, INDEX, x -> x.insert(bad, 0));
        due(d.insert(1, 0), 3);
    }

    @Sentence(of = "Promise 4", says = NO_AUTHOR_OR_POSITION)
    static void insertWithoutAnyAuthor() {
        Doc d = new Doc();
        d.type('x');
        fails(d, INDEX, x -> x.insert(0, 0));
    }

    @Sentence(of = "Promise 4", says = NO_AUTHOR_OR_POSITION)
    static void insertAtNoSuchPosition() {
        Doc d = with("ab");
        d.type('x');
        for (int bad : new int[] {-1, 3, 60, LEAST, GREATEST}) fails(d, INDEX, x -> x.insert(0, bad));
    }

    @Sentence(of = "Promise 4", says = "Throws `IllegalArgumentException` if the buffer is empty")
    static void insertAnEmptyBuffer() {
        Doc d = new Doc();
        d.addAuthor(0, 1);
        fails(d, ARGUMENT, x -> x.insert(0, 0));
        put(d, 0, 0, "ab");
        fails(d, ARGUMENT, x -> x.insert(0, 1));
    }

    private static final String TOO_MUCH = "Throws `IllegalStateException` if there are 40 edits, "
        + "or the text would be longer than 60 characters";

    @Sentence(of = "Promise 4", says = TOO_MUCH)
    static void insertA41stEdit() {
        Doc d = with("abc");
        for (int i = 1; i < 39; i++) d.move(0, 0, 1, 2);
        due(put(d, 0, 0, "x"), 4);
        due(d.edits(), 40);
        d.type('y');
        fails(d, STATE, x -> x.insert(0, 0));
    }

    @Sentence(of = "Promise 4", says = TOO_MUCH)
    static void insertA61stCharacter() {
        Doc d = withSixtyCharacters();
        d.type('x');
        fails(d, STATE, x -> x.insert(0, 60));
        d.delete(0, 0, 1);
        due(d.insert(0, 59), 60);
        due(d.charAt(59), 'x');
        due(d.lengthAgain(), 60);
    }

    @Sentence(of = "Promise 4", says = TOO_MUCH)
    static void insertMoreThanFitsIn() {
        Doc d = withSixtyCharacters();
        d.delete(0, 0, 19);
        typeAll(d, "x".repeat(20));
        fails(d, STATE, x -> x.insert(0, 0));
        d.delete(0, 0, 1);
        due(d.insert(0, 0), 60);
        due(plain(d), "x".repeat(20) + "b".repeat(20) + "c".repeat(20));
    }

    @Sentence(of = "Promise 4", says = "Throws `UnsupportedOperationException` if the edit is refused")
    static void insertARefusedEdit() {
        Doc d = withThreeClauses();
        d.sign(0, 4);
        d.lock(0, true);
        d.setStrict(true);
        typeAll(d, "xy");
        refused(d, 'l', 0, x -> x.insert(1, 1));
        refused(d, 's', 0, x -> x.insert(1, 10));
        due(d.insert(1, 3), 13);
    }

    // ---- Promise 5: delete

    private static final String COUNT = "- `count`: the number of characters, 1 or more";

    @Sentence(of = "Promise 5", says = COUNT)
    static void deleteOneCharacter() {
        Doc d = with("abc");
        due(d.delete(0, 1, 1), 2);
        due(plain(d), "ac");
    }

    @Sentence(of = "Promise 5", says = COUNT)
    static void deleteAllCharacters() {
        Doc d = withSixtyCharacters();
        due(d.delete(0, 0, 60), 0);
        due(d.lengthAgain(), 0);
    }

    @Sentence(of = "Promise 5", says = "Returns the length of the text afterwards.")
    static void deleteReturnsTheLength() {
        Doc d = with("abcdef");
        due(d.delete(0, 0, 2), 4);
        due(d.delete(0, 3, 1), 3);
        due(d.delete(0, 0, 3), 0);
    }

    private static final String NOT_TO_DELETE = "Throws `IndexOutOfBoundsException` if there is no such author, "
        + "or there are not so many characters from this position on, or the count is less than 1";

    @Sentence(of = "Promise 5", says = NOT_TO_DELETE)
    static void deleteByNoSuchAuthor() {
        Doc d = with("abc");
        for (int bad : new int[] {-1, 1, 4, 5, LEAST, GREATEST}) fails(d, INDEX, x -> x.delete(bad, 0, 1));
    }

    @Sentence(of = "Promise 5", says = NOT_TO_DELETE)
    static void deleteMoreThanThereIs() {
        Doc d = with("abc");
        fails(d, INDEX, x -> x.delete(0, 0, 4));
        fails(d, INDEX, x -> x.delete(0, 1, 3));
        fails(d, INDEX, x -> x.delete(0, 2, 2));
        fails(d, INDEX, x -> x.delete(0, 3, 1));
        fails(d, INDEX, x -> x.delete(0, 4, 1));
        due(d.delete(0, 2, 1), 2);
        due(d.delete(0, 0, 2), 0);
        fails(d, INDEX, x -> x.delete(0, 0, 1));
    }

    @Sentence(of = "Promise 5", says = NOT_TO_DELETE)
    static void deleteFromANegativePosition() {
        Doc d = with("abc");
        fails(d, INDEX, x -> x.delete(0, -1, 1));
        fails(d, INDEX, x -> x.delete(0, -1, 2));
        fails(d, INDEX, x -> x.delete(0, LEAST, 1));
    }

    /** The sum of position and count wraps around here. */
    @Sentence(of = "Promise 5", says = NOT_TO_DELETE)
    static void deleteWithAWrapAround() {
        Doc d = with("abc");
        fails(d, INDEX, x -> x.delete(0, 1, GREATEST));
        fails(d, INDEX, x -> x.delete(0, 3, GREATEST));
        fails(d, INDEX, x -> x.delete(0, GREATEST, 1));
        fails(d, INDEX, x -> x.delete(0, GREATEST, GREATEST));
        fails(d, INDEX, x -> x.delete(0, LEAST, GREATEST));
        fails(d, INDEX, x -> x.delete(0, LEAST, LEAST));
    }

    @Sentence(of = "Promise 5", says = NOT_TO_DELETE)
    static void deleteLessThanOneCharacter() {
        Doc d = with("abc");
        fails(d, INDEX, x -> x.delete(0, 0, 0));
        fails(d, INDEX, x -> x.delete(0, 3, 0));
        fails(d, INDEX, x -> x.delete(0, 1, -1));
        fails(d, INDEX, x -> x.delete(0, 1, LEAST));
    }

    @Sentence(of = "Promise 5", says = "Throws `IllegalStateException` if there are 40 edits")
    static void deleteA41stEdit() {
        Doc d = with("abc");
        for (int i = 1; i < 39; i++) d.move(0, 0, 1, 2);
        due(d.delete(0, 0, 1), 2);
        due(d.edits(), 40);
        fails(d, STATE, x -> x.delete(0, 0, 1));
        fails(d, STATE, x -> x.delete(0, 0, 2));
    }

    @Sentence(of = "Promise 5", says = "Throws `UnsupportedOperationException` if the edit is refused")
    static void deleteARefusedEdit() {
        Doc d = withThreeClauses();
        d.sign(0, 4);
        d.lock(0, true);
        d.setStrict(true);
        refused(d, 'l', 0, x -> x.delete(1, 2, 1));
        refused(d, 's', 0, x -> x.delete(1, 8, 1));
        due(d.delete(1, 3, 5), 6);
    }

    // ---- Promise 6: move

    @Sentence(of = "Promise 6", says = COUNT)
    static void moveOneCharacter() {
        Doc d = with("abc");
        due(d.move(0, 0, 1, 2), 1);
        due(plain(d), "bca");
    }

    @Sentence(of = "Promise 6", says = COUNT)
    static void moveAllCharacters() {
        Doc d = withSixtyCharacters();
        due(d.move(0, 0, 60, 0), 3);
        due(d.length(), 60);
        due(plainAgain(d), "a".repeat(20) + "b".repeat(20) + "c".repeat(20));
        due(d.move(0, 0, 59, 1), 4);
        due(d.charAt(0), 'c');
        due(d.charAt(1), 'a');
    }

    private static final String GOAL = "- `goal`: the position of the first moved character afterwards, "
        + "0 to the length of the text without the moved ones";

    @Sentence(of = "Promise 6", says = GOAL)
    static void moveToTheGoal0() {
        Doc d = with("abcde");
        d.move(0, 2, 2, 0);
        due(plain(d), "cdabe");
        d.move(0, 4, 1, 0);
        due(plain(d), "ecdab");
    }

    @Sentence(of = "Promise 6", says = GOAL)
    static void moveToTheGreatestGoal() {
        Doc d = with("abcde");
        d.move(0, 1, 2, 3);
        due(plain(d), "adebc");
        d.move(0, 0, 1, 4);
        due(plain(d), "debca");
        d.move(0, 0, 5, 0);
        due(plain(d), "debca");
    }

    @Sentence(of = "Promise 6", says = GOAL)
    static void theFirstMovedCharacterStandsAtTheGoal() {
        for (int goal = 0; goal <= 4; goal++) {
            Doc d = with("uvxywz");
            d.move(0, 2, 2, goal);
            due(d.charAt(goal), 'x');
            due(d.charAt(goal + 1), 'y');
            due(plain(d).replace("xy", ""), "uvwz");
        }
    }

    @Sentence(of = "Promise 6", says = "Returns the number of the edit.")
    static void moveReturnsTheEdit() {
        Doc d = with("abc");
        due(d.move(0, 0, 1, 1), 1);
        d.delete(0, 0, 1);
        due(d.move(0, 0, 1, 1), 3);
        due(d.editKind(3), 'm');
        Doc last = with("abc");
        for (int i = 1; i < 39; i++) last.move(0, 0, 1, 2);
        due(last.move(0, 0, 1, 2), 39);
    }

    private static final String NOT_TO_MOVE = "Throws `IndexOutOfBoundsException` if there is no such author, or there "
        + "are not so many characters from this position on, or the count is less than 1, or there is no such goal";

    @Sentence(of = "Promise 6", says = NOT_TO_MOVE)
    static void moveByNoSuchAuthor() {
        Doc d = with("abc");
        for (int bad : new int[] {-1, 1, 4, 5, LEAST, GREATEST}) fails(d, INDEX, x -> x.move(bad, 0, 1, 0));
    }

    @Sentence(of = "Promise 6", says = NOT_TO_MOVE)
    static void moveMoreThanThereIs() {
        Doc d = with("abc");
        fails(d, INDEX, x -> x.move(0, 0, 4, 0));
        fails(d, INDEX, x -> x.move(0, 1, 3, 0));
        fails(d, INDEX, x -> x.move(0, 2, 2, 0));
        fails(d, INDEX, x -> x.move(0, 3, 1, 0));
        fails(d, INDEX, x -> x.move(0, 4, 1, 0));
        due(d.move(0, 2, 1, 0), 1);
        due(d.move(0, 0, 3, 0), 2);
        d.delete(0, 0, 3);
        fails(d, INDEX, x -> x.move(0, 0, 1, 0));
    }

    @Sentence(of = "Promise 6", says = NOT_TO_MOVE)
    static void moveFromANegativePosition() {
        Doc d = with("abc");
        fails(d, INDEX, x -> x.move(0, -1, 1, 0));
        fails(d, INDEX, x -> x.move(0, -1, 2, 0));
        fails(d, INDEX, x -> x.move(0, LEAST, 1, 0));
    }

    /** Sums and differences of position, count and goal wrap around here. */
    @Sentence(of = "Promise 6", says = NOT_TO_MOVE)
    static void moveWithAWrapAround() {
        Doc d = with("abc");
        fails(d, INDEX, x -> x.move(0, 1, GREATEST, 0));
        fails(d, INDEX, x -> x.move(0, 3, GREATEST, 0));
        fails(d, INDEX, x -> x.move(0, GREATEST, 1, 0));
        fails(d, INDEX, x -> x.move(0, GREATEST, GREATEST, 0));
        fails(d, INDEX, x -> x.move(0, LEAST, GREATEST, 0));
        fails(d, INDEX, x -> x.move(0, LEAST, LEAST, 0));
        fails(d, INDEX, x -> x.move(0, 0, 1, GREATEST));
        fails(d, INDEX, x -> x.move(0, 0, 3, GREATEST - 2));
        fails(d, INDEX, x -> x.move(0, 0, LEAST, LEAST));
    }

    @Sentence(of = "Promise 6", says = NOT_TO_MOVE)
    static void moveLessThanOneCharacter() {
        Doc d = with("abc");
        fails(d, INDEX, x -> x.move(0, 0, 0, 0));
        fails(d, INDEX, x -> x.move(0, 3, 0, 0));
        fails(d, INDEX, x -> x.move(0, 1, -1, 0));
        fails(d, INDEX, x -> x.move(0, 1, LEAST, 0));
    }

    @Sentence(of = "Promise 6", says = NOT_TO_MOVE)
    static void moveToNoSuchGoal() {
        Doc d = with("abc");
        fails(d, INDEX, x -> x.move(0, 0, 1, -1));
        fails(d, INDEX, x -> x.move(0, 0, 1, 3));
        fails(d, INDEX, x -> x.move(0, 1, 2, 2));
        fails(d, INDEX, x -> x.move(0, 0, 3, 1));
        fails(d, INDEX, x -> x.move(0, 0, 1, LEAST));
        fails(d, INDEX, x -> x.move(0, 0, 1, GREATEST));
    }

    @Sentence(of = "Promise 6", says = "Throws `IllegalStateException` if there are 40 edits")
    static void moveA41stEdit() {
        Doc d = withFortyEdits();
        fails(d, STATE, x -> x.move(0, 0, 1, 2));
        fails(d, STATE, x -> x.move(0, 0, 3, 0));
    }

    @Sentence(of = "Promise 6", says = "Throws `UnsupportedOperationException` if the edit is refused")
    static void moveARefusedEdit() {
        Doc d = withThreeClauses();
        d.sign(0, 4);
        d.lock(0, true);
        d.setStrict(true);
        refused(d, 'l', 0, x -> x.move(1, 2, 1, 0));
        refused(d, 's', 0, x -> x.move(1, 8, 1, 10));
        due(d.move(1, 3, 5, 6), 1);
    }

    // ---- Promises 7 to 10: edits, editKind, editAuthor, editCost

    @Sentence(of = "Promise 7", says = "Returns the number of edits.")
    static void editsFrom0To40() {
        Doc d = new Doc();
        due(d.edits(), 0);
        d.addAuthor(0, 1);
        d.type('x');
        due(d.edits(), 0);
        d.insert(0, 0);
        due(d.edits(), 1);
        due(withFortyEdits().edits(), 40);
    }

    @Sentence(of = "Promise 7", says = "Returns the number of edits.")
    static void whatIsNoEditIsNotCounted() {
        Doc d = withThreeClauses();
        due(d.edits(), 1);
        d.sign(0, 1);
        d.withdraw(0);
        d.lock(0, true);
        throwsNow(d, REFUSED, x -> x.delete(0, 0, 1));
        throwsNow(d, INDEX, x -> x.delete(0, 11, 1));
        due(d.edits(), 1);
    }

    @Sentence(of = "Promise 8", says = "- `edit`: the edit, counted from 0")
    static void theKindsOfTheFirstAndTheLastEdit() {
        Doc d = withFortyEdits();
        due(d.editKind(0), 'i');
        due(d.editKind(1), 'm');
        due(d.editKind(39), 'm');
    }

    @Sentence(of = "Promise 8", says = "Returns 'i' for an insertion, 'd' for a deletion, 'm' for a move.")
    static void theThreeKinds() {
        Doc d = with("abc");
        d.delete(0, 0, 1);
        d.move(0, 0, 1, 1);
        d.move(0, 0, 2, 0);
        put(d, 0, 2, "x");
        due("" + d.editKind(0) + d.editKind(1) + d.editKind(2) + d.editKind(3) + d.editKind(4), "idmmi");
    }

    private static final String NO_EDIT = "Throws `IndexOutOfBoundsException` if there is no such edit";

    @Sentence(of = "Promise 8", says = NO_EDIT)
    static void theKindOfNoSuchEdit() {
        fails(new Doc(), INDEX, x -> x.editKind(0));
        Doc d = with("a");
        d.delete(0, 0, 1);
        for (int bad : new int[] {-1, 2, 39, 40, LEAST, GREATEST}) fails(d, INDEX, x -> x.editKind(bad));
        fails(withFortyEdits(), INDEX, x -> x.editKind(40));
    }

    /** A refused edit is in no list of edits, though it was the latest try. */
    @Sentence(of = "Promise 8", says = NO_EDIT)
    static void aRefusedEditIsNoSuchEdit() {
        Doc d = withThreeClauses();
        d.lock(0, true);
        throwsNow(d, REFUSED, x -> x.delete(0, 0, 1));
        fails(d, INDEX, x -> x.editKind(1));
        fails(d, INDEX, x -> x.editAuthor(1));
        fails(d, INDEX, x -> x.editCost(1));
    }

    @Sentence(of = "Promise 9", says = "- `edit`: the edit, counted from 0")
    static void theAuthorsOfTheFirstAndTheLastEdit() {
        Doc d = with("abc");
        for (int i = 1; i < 5; i++) d.addAuthor(0, 0);
        for (int i = 1; i < 40; i++) d.move(i % 5, 0, 1, 2);
        for (int i = 0; i < 40; i++) due(d.editAuthor(i), i % 5);
    }

    @Sentence(of = "Promise 9", says = NO_EDIT)
    static void theAuthorOfNoSuchEdit() {
        fails(new Doc(), INDEX, x -> x.editAuthor(0));
        Doc d = with("a");
        d.delete(0, 0, 1);
        for (int bad : new int[] {-1, 2, 39, 40, LEAST, GREATEST}) fails(d, INDEX, x -> x.editAuthor(bad));
        fails(withFortyEdits(), INDEX, x -> x.editAuthor(40));
    }

    @Sentence(of = "Promise 10", says = "Returns what an edit cost its author, fees included.")
    static void theFeesAreIncluded() {
        Doc d = withThreeClauses();
        d.sign(0, 3);
        d.sign(0, 1);
        d.setFee(50);
        d.delete(0, 0, 2);
        due(d.editCost(0), 11);
        due(d.editCost(1), 2 + 2 * 50);
        d.delete(0, 0, 1);
        due(d.editCost(2), 1);
    }

    @Sentence(of = "Promise 10", says = "- `edit`: the edit, counted from 0")
    static void theCostsOfTheFirstAndTheLastEdit() {
        Doc d = with("abc");
        for (int i = 1; i < 40; i++) d.move(0, 0, 1 + i % 3, 0);
        due(d.editCost(0), 3);
        for (int i = 1; i < 40; i++) due(d.editCost(i), 1 + i % 3);
    }

    @Sentence(of = "Promise 10", says = NO_EDIT)
    static void theCostOfNoSuchEdit() {
        fails(new Doc(), INDEX, x -> x.editCost(0));
        Doc d = with("a");
        d.delete(0, 0, 1);
        for (int bad : new int[] {-1, 2, 39, 40, LEAST, GREATEST}) fails(d, INDEX, x -> x.editCost(bad));
        fails(withFortyEdits(), INDEX, x -> x.editCost(40));
    }

    // ---- Promises 11 and 12: refusalReason, refusalSubject

    @Sentence(of = "Promise 11", says = "Returns the reason of the latest refusal.")
    static void theReasonOfTheLatestRefusal() {
        Doc d = withThreeClauses();
        d.sign(0, 1);
        d.setStrict(true);
        d.lock(1, true);
        throwsNow(d, REFUSED, x -> x.delete(0, 0, 1));
        due(d.refusalReason(), 's');
        throwsNow(d, REFUSED, x -> x.delete(0, 3, 1));
        due(d.refusalReason(), 'l');
        throwsNow(d, REFUSED, x -> x.delete(0, 0, 1));
        due(d.refusalReason(), 's');
    }

    /** Neither an edit that is not refused nor what takes away the reason makes it be forgotten. */
    @Sentence(of = "Promise 11", says = "Returns the reason of the latest refusal.")
    static void theReasonStaysUntilTheNextRefusal() {
        Doc d = withThreeClauses();
        d.lock(1, true);
        throwsNow(d, REFUSED, x -> x.delete(0, 3, 1));
        d.delete(0, 0, 1);
        d.lock(1, false);
        d.setStrict(true);
        d.delete(0, 2, 1);
        due(d.refusalReason(), 'l');
        due(d.refusalSubject(), 1);
    }

    @Sentence(of = "Promise 11", says = "Returns 'l' or 's'.")
    static void theTwoReasons() {
        Doc d = withThreeClauses();
        d.lock(0, true);
        throwsNow(d, REFUSED, x -> x.delete(0, 0, 1));
        due(d.refusalReason(), 'l');
        Doc e = withThreeClauses();
        e.sign(0, 1);
        e.setStrict(true);
        throwsNow(e, REFUSED, x -> x.delete(0, 0, 1));
        due(e.refusalReason(), 's');
    }

    private static final String NO_REFUSAL = "Throws `NoSuchElementException` if no edit was refused";

    @Sentence(of = "Promise 11", says = NO_REFUSAL)
    static void noReasonBeforeTheFirstRefusal() {
        fails(new Doc(), NOTHING, x -> x.refusalReason());
        Doc d = withThreeClauses();
        d.lock(0, true);
        d.delete(0, 3, 1);
        throwsNow(d, INDEX, x -> x.delete(0, 0, 11));
        fails(d, NOTHING, x -> x.refusalReason());
        throwsNow(d, REFUSED, x -> x.delete(0, 0, 10));
        due(d.refusalReason(), 'l');
    }

    @Sentence(of = "Promise 12", says = "Returns the subject of the latest refusal.")
    static void theSubjectOfTheLatestRefusal() {
        Doc d = withThreeClauses();
        d.lock(0, true);
        d.lock(2, true);
        throwsNow(d, REFUSED, x -> x.delete(0, 0, 1));
        due(d.refusalSubject(), 0);
        throwsNow(d, REFUSED, x -> x.delete(0, 8, 1));
        due(d.refusalSubject(), 2);
        d.delete(0, 3, 1);
        due(d.refusalSubject(), 2);
        throwsNow(d, REFUSED, x -> x.delete(0, 0, 1));
        due(d.refusalSubject(), 0);
    }

    @Sentence(of = "Promise 12", says = "Returns the clause or the signature.")
    static void theSubjectIsTheClauseOrTheSignature() {
        Doc d = withThreeClauses();
        for (int i = 0; i < 4; i++) d.sign(0, 1);
        d.sign(0, 4);
        d.setStrict(true);
        throwsNow(d, REFUSED, x -> x.delete(0, 8, 1));
        due(d.refusalSubject(), 4);
        d.lock(2, true);
        throwsNow(d, REFUSED, x -> x.delete(0, 8, 1));
        due(d.refusalSubject(), 2);
    }

    @Sentence(of = "Promise 12", says = "Returns the clause or the signature.")
    static void theGreatestSubjectsAre5And11() {
        Doc d = withTwelveSignatures();
        d.setStrict(true);
        for (int i = 0; i < 11; i++) d.withdraw(i);
        throwsNow(d, REFUSED, x -> x.delete(0, 0, 1));
        due(d.refusalSubject(), 11);
        d.lock(5, true);
        throwsNow(d, REFUSED, x -> x.delete(0, 0, 6));
        due(d.refusalSubject(), 5);
    }

    @Sentence(of = "Promise 12", says = NO_REFUSAL)
    static void noSubjectBeforeTheFirstRefusal() {
        fails(new Doc(), NOTHING, x -> x.refusalSubject());
        Doc d = withThreeClauses();
        d.lock(0, true);
        d.delete(0, 3, 1);
        throwsNow(d, INDEX, x -> x.delete(0, 0, 11));
        fails(d, NOTHING, x -> x.refusalSubject());
        throwsNow(d, REFUSED, x -> x.delete(0, 0, 10));
        due(d.refusalSubject(), 0);
    }

    public static void main(String[] args) {
        run(EditsTest.class);
    }
}
