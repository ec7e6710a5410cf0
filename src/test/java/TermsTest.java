import java.util.function.Consumer;

/** "What it is" and "Terms": the boundary cases, each with a test of its own that names its sentence. */
public final class TermsTest extends Checks {
    private static final String TERMS = "Terms";

    // ---- What it is

    private static final String CALLS = "An object is used for at most 512 calls after it has been made; "
        + "what later calls answer is free.";

    @Sentence(of = "What it is", says = CALLS)
    static void the512thCallIsAnswered() {
        Doc d = with("a");
        while (d.calls() < 510) due(d.length(), 1);
        due(d.type('b'), 1);
        due(d.insert(0, 1), 2);
        due(d.calls(), 512);
    }

    @Sentence(of = "What it is", says = CALLS)
    static void the512thCallThrowsWhatIsDue() {
        Doc d = with("a");
        while (d.calls() < 511) due(d.length(), 1);
        throwsNow(d, INDEX, x -> x.charAt(1));
        due(d.calls(), 512);
    }

    // ---- Exceptions

    private static final String UNCHANGED = "A method that throws an exception changes nothing, "
        + "except that a refused edit is recorded as the latest refusal.";

    @Sentence(of = TERMS, says = UNCHANGED)
    static void aRejectedEditChangesNothing() {
        Doc d = withEverything();
        fails(d, INDEX, x -> x.insert(2, 0));
        fails(d, INDEX, x -> x.insert(0, -1));
        fails(d, INDEX, x -> x.insert(0, 11));
        fails(d, INDEX, x -> x.delete(2, 0, 1));
        fails(d, INDEX, x -> x.delete(0, 10, 1));
        fails(d, INDEX, x -> x.delete(0, 0, 0));
        fails(d, INDEX, x -> x.move(2, 0, 1, 1));
        fails(d, INDEX, x -> x.move(0, 9, 2, 1));
        fails(d, INDEX, x -> x.move(0, 0, 0, 1));
        fails(d, INDEX, x -> x.move(0, 0, 1, 10));
        Doc empty = with("abc");
        fails(empty, ARGUMENT, x -> x.insert(0, 0));
    }

    @Sentence(of = TERMS, says = UNCHANGED)
    static void aRejectedAdditionChangesNothing() {
        Doc d = withEverything();
        fails(d, ARGUMENT, x -> x.addAuthor(4, 0));
        fails(d, ARGUMENT, x -> x.addAuthor(0, 1000));
        fails(d, ARGUMENT, x -> x.type('A'));
        fails(d, INDEX, x -> x.addClause(10, 1));
        fails(d, INDEX, x -> x.addClause(5, 0));
        fails(d, STATE, x -> x.addClause(4, 2));
        fails(d, INDEX, x -> x.sign(2, 1));
        fails(d, ARGUMENT, x -> x.sign(0, 0));
        fails(d, ARGUMENT, x -> x.sign(0, 9));
    }

    @Sentence(of = TERMS, says = UNCHANGED)
    static void aRejectedSettingChangesNothing() {
        Doc d = withEverything();
        fails(d, INDEX, x -> x.lock(3, true));
        fails(d, INDEX, x -> x.lock(-1, false));
        fails(d, ARGUMENT, x -> x.setFee(1000));
        fails(d, ARGUMENT, x -> x.setFee(-1));
        fails(d, INDEX, x -> x.withdraw(4));
        fails(d, STATE, x -> x.withdraw(0));
        fails(d, STATE, x -> x.withdraw(1));
        fails(d, INDEX, x -> x.writeClause(3));
    }

    @Sentence(of = TERMS, says = UNCHANGED)
    static void aRejectedQuestionChangesNothing() {
        Doc d = withEverything();
        fails(d, INDEX, x -> x.editKind(2));
        fails(d, INDEX, x -> x.editAuthor(2));
        fails(d, INDEX, x -> x.editCost(2));
        fails(d, INDEX, x -> x.charAt(10));
        fails(d, INDEX, x -> x.authorOf(10));
        fails(d, INDEX, x -> x.clauseOf(10));
        fails(d, INDEX, x -> x.charAgain(10));
        fails(d, INDEX, x -> x.outputAt(-1));
        fails(d, INDEX, x -> x.clauseLength(3));
        fails(d, INDEX, x -> x.signers(3));
        fails(d, INDEX, x -> x.state(4));
        fails(d, INDEX, x -> x.isUntouched(4));
        fails(d, INDEX, x -> x.voidedBy(4));
        fails(d, NOTHING, x -> x.voidedBy(1));
        fails(d, INDEX, x -> x.bill(2));
        fails(d, INDEX, x -> x.billAgain(2));
        fails(d, INDEX, x -> x.share(2));
        Doc fresh = new Doc();
        fails(fresh, NOTHING, x -> x.refusalReason());
        fails(fresh, NOTHING, x -> x.refusalSubject());
        fails(fresh, ARITHMETIC, x -> x.meanCost());
        fresh.addAuthor(0, 0);
        fails(fresh, ARITHMETIC, x -> x.share(0));
    }

    @Sentence(of = TERMS, says = UNCHANGED)
    static void aCallForWhichThereIsNoRoomChangesNothing() {
        Doc d = withAllLimitsReached();
        fails(d, STATE, x -> x.addAuthor(0, 0));
        fails(d, STATE, x -> x.type('z'));
        fails(d, STATE, x -> x.insert(0, 5));
        fails(d, STATE, x -> x.delete(0, 0, 60));
        fails(d, STATE, x -> x.move(0, 0, 1, 59));
        fails(d, STATE, x -> x.addClause(0, 1));
        fails(d, STATE, x -> x.sign(0, 63));
        due(d.edits(), 40);
    }

    @Sentence(of = TERMS, says = UNCHANGED)
    static void aRefusedInsertionIsOnlyRecorded() {
        Doc d = withEverything();
        refused(d, 'l', 1, x -> x.insert(0, 3));
        refused(d, 's', 3, x -> x.insert(0, 8));
        due(d.type('r'), 3);
        d.setStrict(false);
        due(d.insert(0, 8), 13);
        due(text(d), "[0:aa][1:bbb]cc[2:dpqrdd]");
    }

    /** The text would have had 60 characters, but has 59 still. */
    @Sentence(of = TERMS, says = UNCHANGED)
    static void aRefusedInsertionTakesNoRoomInTheText() {
        Doc d = withSixtyCharacters();
        d.delete(0, 59, 1);
        d.addClause(0, 2);
        d.lock(0, true);
        d.type('x');
        refused(d, 'l', 0, x -> x.insert(0, 1));
        due(d.insert(0, 59), 60);
    }

    @Sentence(of = TERMS, says = UNCHANGED)
    static void aRefusedDeletionOfAllLeavesTheText() {
        Doc d = with("abc");
        d.addClause(0, 1);
        d.lock(0, true);
        refused(d, 'l', 0, x -> x.delete(0, 0, 3));
        dueD(d.share(0), 1.0);
        due(text(d), "[0:a]bc");
    }

    @Sentence(of = TERMS, says = UNCHANGED)
    static void aRefusedDeletionIsOnlyRecorded() {
        Doc d = withEverything();
        refused(d, 'l', 1, x -> x.delete(0, 2, 3));
        refused(d, 's', 3, x -> x.delete(1, 9, 1));
        refused(d, 'l', 1, x -> x.delete(1, 0, 10));
    }

    @Sentence(of = TERMS, says = UNCHANGED)
    static void aRefusedMoveIsOnlyRecorded() {
        Doc d = withEverything();
        refused(d, 'l', 1, x -> x.move(0, 2, 1, 0));
        refused(d, 's', 3, x -> x.move(1, 0, 1, 8));
        refused(d, 'l', 1, x -> x.move(1, 1, 2, 0));
    }

    /** Seen on a document whose edits are all in use but one. */
    @Sentence(of = TERMS, says = UNCHANGED)
    static void aRefusedEditIsNotCountedAsAnEdit() {
        Doc d = with("abc");
        d.addClause(0, 1);
        for (int i = 1; i < 39; i++) d.move(0, 2, 1, 1);
        d.lock(0, true);
        refused(d, 'l', 0, x -> x.delete(0, 0, 1));
        due(d.edits(), 39);
        due(d.delete(0, 1, 1), 2);
        due(d.edits(), 40);
    }

    @Sentence(of = TERMS, says = UNCHANGED)
    static void onlyARefusalIsRecordedAsTheLatest() {
        Doc d = withThreeClauses();
        d.lock(0, true);
        d.lock(1, true);
        throwsNow(d, INDEX, x -> x.delete(0, 11, 1));
        throwsNow(d, ARGUMENT, x -> x.insert(0, 1));
        due(refusal(d), "none");
        throwsNow(d, REFUSED, x -> x.delete(0, 3, 1));
        throwsNow(d, INDEX, x -> x.delete(2, 0, 1));
        throwsNow(d, INDEX, x -> x.move(0, 0, 1, 11));
        throwsNow(d, ARGUMENT, x -> x.insert(0, 1));
        due(refusal(d), "l1");
        throwsNow(d, REFUSED, x -> x.delete(0, 0, 1));
        due(refusal(d), "l0");
    }

    // ---- The order of the exceptions

    private static final String ORDER = "If several conditions for an exception hold, "
        + "the exception that is listed first is thrown.";

    @Sentence(of = TERMS, says = ORDER)
    static void aRateOutOfRangeComesBeforeTooManyAuthors() {
        Doc d = withAllLimitsReached();
        fails(d, ARGUMENT, x -> x.addAuthor(4, 0));
        fails(d, ARGUMENT, x -> x.addAuthor(0, 1000));
    }

    @Sentence(of = TERMS, says = ORDER)
    static void aWrongCharacterComesBeforeAFullBuffer() {
        Doc d = withAllLimitsReached();
        fails(d, ARGUMENT, x -> x.type('A'));
    }

    @Sentence(of = TERMS, says = ORDER)
    static void noSuchAuthorOrPositionComesBeforeAnEmptyBuffer() {
        Doc d = with("abc");
        fails(d, INDEX, x -> x.insert(1, 0));
        fails(d, INDEX, x -> x.insert(0, 4));
    }

    @Sentence(of = TERMS, says = ORDER)
    static void noSuchAuthorOrPositionComesBeforeTooManyEdits() {
        Doc d = withFortyEdits();
        d.type('x');
        fails(d, INDEX, x -> x.insert(1, 0));
        fails(d, INDEX, x -> x.insert(0, 4));
        fails(d, INDEX, x -> x.delete(1, 0, 1));
        fails(d, INDEX, x -> x.delete(0, 3, 1));
        fails(d, INDEX, x -> x.delete(0, 0, 0));
        fails(d, INDEX, x -> x.move(1, 0, 1, 0));
        fails(d, INDEX, x -> x.move(0, 3, 1, 0));
        fails(d, INDEX, x -> x.move(0, 0, 0, 0));
        fails(d, INDEX, x -> x.move(0, 0, 1, 3));
    }

    @Sentence(of = TERMS, says = ORDER)
    static void noSuchAuthorOrPositionComesBeforeTooLongAText() {
        Doc d = withSixtyCharacters();
        d.type('x');
        fails(d, INDEX, x -> x.insert(1, 0));
        fails(d, INDEX, x -> x.insert(0, 61));
    }

    @Sentence(of = TERMS, says = ORDER)
    static void anEmptyBufferComesBeforeTooManyEdits() {
        fails(withFortyEdits(), ARGUMENT, x -> x.insert(0, 0));
    }

    @Sentence(of = TERMS, says = ORDER)
    static void noSuchAuthorOrGoalComesBeforeARefusal() {
        Doc d = withThreeClauses();
        d.lock(0, true);
        d.type('x');
        fails(d, INDEX, x -> x.insert(2, 1));
        fails(d, INDEX, x -> x.delete(2, 0, 1));
        fails(d, INDEX, x -> x.move(2, 0, 1, 5));
        fails(d, INDEX, x -> x.move(0, 0, 1, 11));
    }

    @Sentence(of = TERMS, says = ORDER)
    static void anEmptyBufferComesBeforeARefusal() {
        Doc d = withThreeClauses();
        d.lock(0, true);
        fails(d, ARGUMENT, x -> x.insert(0, 1));
    }

    @Sentence(of = TERMS, says = ORDER)
    static void tooManyEditsComeBeforeARefusal() {
        Doc d = withAllLimitsReached();
        for (int i = 0; i < 6; i++) d.lock(i, true);
        d.setStrict(true);
        fails(d, STATE, x -> x.insert(0, 1));
        fails(d, STATE, x -> x.delete(0, 0, 1));
        fails(d, STATE, x -> x.move(0, 0, 1, 59));
    }

    @Sentence(of = TERMS, says = ORDER)
    static void tooLongATextComesBeforeARefusal() {
        Doc d = withSixtyCharacters();
        d.addClause(0, 60);
        d.lock(0, true);
        d.type('x');
        fails(d, STATE, x -> x.insert(0, 30));
    }

    @Sentence(of = TERMS, says = ORDER)
    static void noSuchCharactersComeBeforeTooManyClauses() {
        Doc d = withTwelveSignatures();
        fails(d, INDEX, x -> x.addClause(0, 7));
        fails(d, INDEX, x -> x.addClause(0, 0));
        fails(d, INDEX, x -> x.addClause(6, 1));
    }

    @Sentence(of = TERMS, says = ORDER)
    static void noSuchCharactersComeBeforeACharacterOfAClause() {
        Doc d = with("abc");
        d.addClause(2, 1);
        fails(d, INDEX, x -> x.addClause(2, 2));
        fails(d, INDEX, x -> x.addClause(2, 0));
    }

    @Sentence(of = TERMS, says = ORDER)
    static void noSuchAuthorComesBeforeAnEmptySet() {
        Doc d = withThreeClauses();
        fails(d, INDEX, x -> x.sign(2, 0));
        fails(d, INDEX, x -> x.sign(2, 8));
    }

    @Sentence(of = TERMS, says = ORDER)
    static void noSuchAuthorComesBeforeTooManySignatures() {
        fails(withTwelveSignatures(), INDEX, x -> x.sign(1, 1));
    }

    @Sentence(of = TERMS, says = ORDER)
    static void aWrongSetComesBeforeTooManySignatures() {
        Doc d = withTwelveSignatures();
        fails(d, ARGUMENT, x -> x.sign(0, 0));
        fails(d, ARGUMENT, x -> x.sign(0, 64));
    }

    @Sentence(of = TERMS, says = ORDER)
    static void noSuchAuthorComesBeforeAnEmptyText() {
        Doc d = new Doc();
        d.addAuthor(0, 0);
        fails(d, INDEX, x -> x.share(1));
    }

    // ---- Text

    private static final String TEXT = "The text is a sequence of at most 60 characters, "
        + "which are letters from 'a' to 'z' or blanks.";

    @Sentence(of = TERMS, says = TEXT)
    static void sixtyCharactersAreTheMost() {
        Doc d = withSixtyCharacters();
        due(d.length(), 60);
        due(d.charAt(59), 'c');
        d.type('d');
        fails(d, STATE, x -> x.insert(0, 60));
        fails(d, STATE, x -> x.insert(0, 0));
    }

    @Sentence(of = TERMS, says = TEXT)
    static void allLettersAndBlanksAreCharacters() {
        Doc d = with("abcdefghijklmnopqrst");
        put(d, 0, 20, "uvwxyz  ");
        due(plain(d), "abcdefghijklmnopqrstuvwxyz  ");
    }

    @Sentence(of = TERMS, says = "Positions are counted from 0.")
    static void theFirstPositionIs0() {
        Doc d = with("ab");
        due(d.charAt(0), 'a');
        due(d.charAt(1), 'b');
        fails(d, INDEX, x -> x.charAt(2));
    }

    private static final String CHARACTER = "Each character has an author, who inserted it, "
        + "and belongs to one clause or to none.";

    @Sentence(of = TERMS, says = CHARACTER)
    static void aCharacterMovedByAnotherAuthorKeepsItsOwn() {
        Doc d = with("ab");
        d.addAuthor(0, 0);
        put(d, 1, 1, "xy");
        d.move(1, 0, 1, 3);
        d.move(0, 0, 1, 1);
        due(plain(d), "yxba");
        int[] authors = {1, 1, 0, 0};
        for (int i = 0; i < 4; i++) due(d.authorOf(i), authors[i]);
    }

    @Sentence(of = TERMS, says = CHARACTER)
    static void aCharacterBelongsToOneClauseAtMost() {
        Doc d = withThreeClauses();
        d.move(0, 0, 1, 3);
        due(text(d), "[0:aa][1:babb]cc[2:ddd]");
        due(d.clauseOf(3), 1);
        due(d.clauseLength(0) + d.clauseLength(1) + d.clauseLength(2), 9);
        due(d.clauseOf(6), -1);
    }

    // ---- Authors

    @Sentence(of = TERMS, says = "There are at most 5 authors, numbered from 0.")
    static void thereAreFiveAuthorsAtMost() {
        Doc d = new Doc();
        for (int i = 0; i < 5; i++) due(d.addAuthor(0, i), i);
        fails(d, STATE, x -> x.addAuthor(0, 5));
        for (int i = 0; i < 5; i++) {
            put(d, i, 0, "x");
            due(d.editCost(i), i);
        }
    }

    @Sentence(of = TERMS, says = "An author has a scheme from 0 to 3 and a rate from 0 to 999 cents.")
    static void schemeAndRateGoUpTo3And999() {
        Doc d = new Doc();
        due(d.addAuthor(0, 0), 0);
        due(d.addAuthor(3, 999), 1);
        fails(d, ARGUMENT, x -> x.addAuthor(-1, 0));
        fails(d, ARGUMENT, x -> x.addAuthor(4, 0));
        fails(d, ARGUMENT, x -> x.addAuthor(0, -1));
        fails(d, ARGUMENT, x -> x.addAuthor(0, 1000));
        put(d, 0, 0, "a");
        due(d.bill(0), 0);
        put(d, 1, 0, "a");
        due(d.bill(1), 2 * 999);
    }

    // ---- Clauses

    private static final String CLAUSES = "There are at most 6 clauses, "
        + "numbered from 0 in the order in which they were added.";

    @Sentence(of = TERMS, says = CLAUSES)
    static void thereAreSixClausesAtMost() {
        Doc d = with("abcdefg");
        for (int i = 0; i < 6; i++) due(d.addClause(6 - i, 1), i);
        fails(d, STATE, x -> x.addClause(0, 1));
        due(text(d), "a[5:b][4:c][3:d][2:e][1:f][0:g]");
    }

    @Sentence(of = TERMS, says = CLAUSES)
    static void aClauseWithoutCharactersIsCountedStill() {
        Doc d = with("abcdefg");
        for (int i = 0; i < 6; i++) d.addClause(i, 1);
        d.delete(0, 0, 6);
        due(d.clauses(), 6);
        fails(d, STATE, x -> x.addClause(0, 1));
    }

    private static final String WORDS = "A clause consists of all characters that belong to it; its words are these "
        + "characters in the order of the text; they are changed by an edit only if they are not the same afterwards, "
        + "letter by letter.";

    /** A document with this text in one locked clause, also signed. */
    private static Doc locked(String words) {
        Doc d = with(words);
        d.addClause(0, words.length());
        d.sign(0, 1);
        d.lock(0, true);
        return d;
    }

    private static void dueSame(Doc d, Consumer<Doc> edit) {
        int edits = d.edits();
        due(d.attempt(edit) == null, true);
        due(d.edits(), edits + 1);
        due(d.state(0), 'v');
        due(d.isUntouched(0), true);
    }

    private static void dueChanged(Doc d, Consumer<Doc> edit) {
        refused(d, 'l', 0, edit);
        d.lock(0, false);
        due(d.attempt(edit) == null, true);
        due(d.state(0), 'x');
        due(d.isUntouched(0), false);
    }

    @Sentence(of = TERMS, says = WORDS)
    static void equalLettersThatChangePlacesAreTheSameWords() {
        dueSame(locked("baab"), x -> x.move(0, 1, 1, 2));
        dueSame(locked("xababy"), x -> x.move(0, 1, 2, 3));
    }

    @Sentence(of = TERMS, says = WORDS)
    static void lettersInAnotherOrderAreOtherWords() {
        dueChanged(locked("aabb"), x -> x.move(0, 1, 1, 2));
        dueChanged(locked("abcc"), x -> x.move(0, 2, 1, 1));
    }

    @Sentence(of = TERMS, says = WORDS)
    static void oneLetterLessAtTheEndMakesOtherWords() {
        dueChanged(locked("aaa"), x -> x.delete(0, 2, 1));
    }

    @Sentence(of = TERMS, says = WORDS)
    static void oneLetterLessAtTheBeginningMakesOtherWords() {
        dueChanged(locked("aaa"), x -> x.delete(0, 0, 1));
    }

    @Sentence(of = TERMS, says = WORDS)
    static void oneEqualLetterMoreMakesOtherWords() {
        Doc d = locked("aaa");
        d.type('a');
        dueChanged(d, x -> x.insert(0, 2));
    }

    @Sentence(of = TERMS, says = WORDS)
    static void noLettersAtAllAreOtherWords() {
        dueChanged(locked("a"), x -> x.delete(0, 0, 1));
    }

    @Sentence(of = TERMS, says = WORDS)
    static void wordsMovedAsAWholeAreTheSame() {
        Doc d = locked("ab");
        put(d, 0, 2, "xyz");
        dueSame(d, x -> x.move(0, 0, 2, 3));
        due(text(d), "xyz[0:ab]");
        dueSame(d, x -> x.move(0, 2, 3, 1));
        due(text(d), "xz[0:ab]y");
    }

    /** The words have a gap then, which does not count. */
    @Sentence(of = TERMS, says = WORDS)
    static void anotherClauseInTheMiddleLeavesTheWordsTheSame() {
        Doc d = locked("abcd");
        put(d, 0, 4, "xy");
        d.addClause(4, 2);
        dueSame(d, x -> x.move(0, 4, 2, 2));
        due(text(d), "[0:ab][1:xy][0:cd]");
        due(words(d, 0), "abcd");
        dueSame(d, x -> x.delete(0, 2, 1));
        dueSame(d, x -> x.delete(0, 2, 1));
        due(text(d), "[0:abcd]");
    }

    @Sentence(of = TERMS, says = WORDS)
    static void aLetterBehindTheGapBelongsToTheWords() {
        Doc d = locked("abcd");
        put(d, 0, 4, "xy");
        d.addClause(4, 2);
        d.move(0, 4, 2, 2);
        dueChanged(d, x -> x.delete(0, 5, 1));
        due(words(d, 0), "abc");
    }

    @Sentence(of = TERMS, says = WORDS)
    static void aLetterMovedOutAndBackInOneEditIsTheSame() {
        Doc d = locked("aab");
        dueSame(d, x -> x.move(0, 0, 1, 1));
        due(text(d), "[0:aab]");
    }

    @Sentence(of = TERMS, says = "A new clause consists of some characters that stand one after the other.")
    static void aNewClauseHasTheseCharactersAndNoOthers() {
        Doc d = with("abcdef");
        d.addClause(1, 3);
        due(text(d), "a[0:bcd]ef");
        d.addClause(5, 1);
        due(text(d), "a[0:bcd]e[1:f]");
        d.addClause(0, 1);
        due(text(d), "[2:a][0:bcd]e[1:f]");
    }

    @Sentence(of = TERMS, says = "A new clause consists of some characters that stand one after the other.")
    static void aNewClauseCanHaveTheWholeText() {
        Doc d = withSixtyCharacters();
        due(d.addClause(0, 60), 0);
        due(d.clauseLength(0), 60);
        due(d.clauseOf(0), 0);
        due(d.clauseOf(59), 0);
    }

    // ---- Edits

    @Sentence(of = TERMS, says = "There are at most 40 edits, numbered from 0.")
    static void thereAreFortyEditsAtMost() {
        Doc d = with("abc");
        for (int i = 1; i < 39; i++) due(d.move(0, 0, 1, 2), i);
        due(d.edits(), 39);
        due(d.move(0, 0, 1, 0), 39);
        d.type('x');
        fails(d, STATE, x -> x.insert(0, 0));
        fails(d, STATE, x -> x.delete(0, 0, 1));
        fails(d, STATE, x -> x.move(0, 0, 1, 0));
        due(d.editKind(0), 'i');
        due(d.editKind(39), 'm');
    }

    private static final String INSERTION = "An insertion puts characters at a position; they belong to the clause of "
        + "the character before them if the character behind them belongs to the same clause, and to none otherwise "
        + "(also if they are put at the beginning or at the end).";

    @Sentence(of = TERMS, says = INSERTION)
    static void insertedInsideAClauseTheyBelongToIt() {
        Doc d = withThreeClauses();
        put(d, 0, 1, "xyz");
        due(text(d), "[0:axyzaa][1:bbb]cc[2:ddd]");
        put(d, 0, 13, "u");
        due(text(d), "[0:axyzaa][1:bbb]cc[2:ddud]");
    }

    @Sentence(of = TERMS, says = INSERTION)
    static void insertedAtTheBeginningTheyBelongToNone() {
        Doc d = withThreeClauses();
        put(d, 0, 0, "xy");
        due(text(d), "xy[0:aaa][1:bbb]cc[2:ddd]");
    }

    @Sentence(of = TERMS, says = INSERTION)
    static void insertedAtTheEndTheyBelongToNone() {
        Doc d = withThreeClauses();
        put(d, 0, 11, "xy");
        due(text(d), "[0:aaa][1:bbb]cc[2:ddd]xy");
    }

    @Sentence(of = TERMS, says = INSERTION)
    static void insertedBetweenTwoClausesTheyBelongToNone() {
        Doc d = withThreeClauses();
        put(d, 0, 3, "xy");
        due(text(d), "[0:aaa]xy[1:bbb]cc[2:ddd]");
    }

    @Sentence(of = TERMS, says = INSERTION)
    static void insertedBetweenAClauseAndNoneTheyBelongToNone() {
        Doc d = withThreeClauses();
        put(d, 0, 6, "x");
        due(text(d), "[0:aaa][1:bbb]xcc[2:ddd]");
        put(d, 0, 9, "y");
        due(text(d), "[0:aaa][1:bbb]xccy[2:ddd]");
        put(d, 0, 8, "z");
        due(text(d), "[0:aaa][1:bbb]xczcy[2:ddd]");
    }

    @Sentence(of = TERMS, says = INSERTION)
    static void insertedIntoAnEmptyTextTheyBelongToNone() {
        Doc d = with("a");
        d.addClause(0, 1);
        d.delete(0, 0, 1);
        put(d, 0, 0, "ab");
        due(text(d), "ab");
    }

    /** Before and behind the nested clause stands the outer one, but not on both sides of the position. */
    @Sentence(of = TERMS, says = INSERTION)
    static void insertedAtTheEdgeOfANestedClauseTheyBelongToNone() {
        Doc d = with("abxy");
        d.addClause(0, 2);
        d.addClause(2, 2);
        d.move(0, 2, 2, 1);
        due(text(d), "[0:a][1:xy][0:b]");
        put(d, 0, 1, "p");
        put(d, 0, 4, "q");
        put(d, 0, 3, "r");
        due(text(d), "[0:a]p[1:xry]q[0:b]");
    }

    @Sentence(of = TERMS, says = "A deletion removes characters that stand one after the other.")
    static void aDeletionRemovesTheseAndNoOthers() {
        Doc d = with("abcdefgh");
        d.delete(0, 0, 1);
        due(plain(d), "bcdefgh");
        d.delete(0, 6, 1);
        due(plain(d), "bcdefg");
        d.delete(0, 2, 2);
        due(plain(d), "bcfg");
        d.delete(0, 0, 4);
        due(plain(d), "");
    }

    private static final String MOVE = "A move takes out characters that stand one after the other "
        + "and puts them at a position of the remaining text.";

    @Sentence(of = TERMS, says = MOVE)
    static void movedToTheBeginning() {
        Doc d = with("abcdef");
        d.move(0, 4, 2, 0);
        due(plain(d), "efabcd");
    }

    @Sentence(of = TERMS, says = MOVE)
    static void movedToTheEndOfTheRemainingText() {
        Doc d = with("abcdef");
        d.move(0, 0, 2, 4);
        due(plain(d), "cdefab");
        fails(d, INDEX, x -> x.move(0, 0, 2, 5));
    }

    @Sentence(of = TERMS, says = MOVE)
    static void movedByOnePlaceAndToItsOwn() {
        Doc d = with("abcdef");
        d.move(0, 1, 2, 2);
        due(plain(d), "adbcef");
        d.move(0, 2, 2, 1);
        due(plain(d), "abcdef");
        d.move(0, 2, 3, 2);
        due(plain(d), "abcdef");
        d.move(0, 0, 6, 0);
        due(plain(d), "abcdef");
    }

    private static final String WHOLE = "If all characters of a clause are moved together, they go on belonging to it.";

    @Sentence(of = TERMS, says = WHOLE)
    static void aWholeClauseGoesAlong() {
        Doc d = withThreeClauses();
        d.move(0, 3, 3, 8);
        due(text(d), "[0:aaa]cc[2:ddd][1:bbb]");
        d.move(0, 0, 3, 3);
        due(text(d), "cc[2:d][0:aaa][2:dd][1:bbb]");
    }

    @Sentence(of = TERMS, says = WHOLE)
    static void aClauseOfOneCharacterGoesAlong() {
        Doc d = with("abc");
        d.addClause(1, 1);
        d.move(0, 1, 1, 0);
        due(text(d), "[0:b]ac");
        d.move(0, 0, 2, 1);
        due(text(d), "c[0:b]a");
    }

    @Sentence(of = TERMS, says = WHOLE)
    static void severalWholeClausesGoAlongTogether() {
        Doc d = withThreeClauses();
        d.move(0, 0, 8, 3);
        due(text(d), "[2:ddd][0:aaa][1:bbb]cc");
        d.move(0, 0, 11, 0);
        due(text(d), "[2:ddd][0:aaa][1:bbb]cc");
    }

    @Sentence(of = TERMS, says = WHOLE)
    static void aWholeClauseWithAGapGoesAlong() {
        Doc d = with("abxyz");
        d.addClause(0, 2);
        d.addClause(2, 2);
        d.move(0, 2, 2, 1);
        due(text(d), "[0:a][1:xy][0:b]z");
        d.move(0, 0, 4, 1);
        due(text(d), "z[0:a][1:xy][0:b]");
    }

    /** Also if the one that stays stands beyond a gap. */
    @Sentence(of = TERMS, says = WHOLE)
    static void aClauseDoesNotGoAlongIfOneCharacterStays() {
        Doc d = withThreeClauses();
        d.move(0, 0, 2, 9);
        due(text(d), "[0:a][1:bbb]cc[2:ddd]aa");
        d.move(0, 2, 2, 9);
        due(text(d), "[0:a][1:b]cc[2:ddd]aabb");
        Doc e = with("abxyz");
        e.addClause(0, 2);
        e.addClause(2, 2);
        e.move(0, 2, 2, 1);
        e.move(0, 0, 3, 2);
        due(text(e), "[0:b]za[1:xy]");
        Doc f = with("abxyz");
        f.addClause(0, 2);
        f.addClause(2, 2);
        f.move(0, 2, 2, 1);
        f.move(0, 1, 3, 2);
        due(text(f), "[0:a]z[1:xy]b");
    }

    private static final String OTHERS = "All other moved characters belong, from then on, "
        + "to the clause to which inserted ones would belong at that position, or to none.";

    @Sentence(of = TERMS, says = OTHERS)
    static void movedIntoAClauseTheyBelongToIt() {
        Doc d = withThreeClauses();
        d.move(0, 6, 2, 1);
        due(text(d), "[0:accaa][1:bbb][2:ddd]");
        d.move(0, 5, 1, 9);
        due(text(d), "[0:accaa][1:bb][2:ddbd]");
    }

    @Sentence(of = TERMS, says = OTHERS)
    static void movedToTheBeginningTheyBelongToNone() {
        Doc d = withThreeClauses();
        d.move(0, 2, 2, 0);
        due(text(d), "ab[0:aa][1:bb]cc[2:ddd]");
    }

    @Sentence(of = TERMS, says = OTHERS)
    static void movedToTheEndTheyBelongToNone() {
        Doc d = withThreeClauses();
        d.move(0, 2, 2, 9);
        due(text(d), "[0:aa][1:bb]cc[2:ddd]ab");
    }

    @Sentence(of = TERMS, says = OTHERS)
    static void movedBetweenTwoClausesTheyBelongToNone() {
        Doc d = withThreeClauses();
        d.move(0, 8, 1, 3);
        due(text(d), "[0:aaa]d[1:bbb]cc[2:dd]");
        d.move(0, 7, 2, 4);
        due(text(d), "[0:aaa]dcc[1:bbb][2:dd]");
    }

    /** The position lies in the remaining text: what stands there now may be among the moved ones. */
    @Sentence(of = TERMS, says = OTHERS)
    static void movedToTheirOwnPlaceTheyBelongToWhatRemainsAround() {
        Doc d = withThreeClauses();
        d.move(0, 1, 1, 1);
        due(text(d), "[0:aaa][1:bbb]cc[2:ddd]");
        d.move(0, 0, 1, 0);
        due(text(d), "a[0:aa][1:bbb]cc[2:ddd]");
        d.move(0, 2, 1, 2);
        due(text(d), "a[0:a]a[1:bbb]cc[2:ddd]");
        d.move(0, 10, 1, 10);
        due(text(d), "a[0:a]a[1:bbb]cc[2:dd]d");
    }

    @Sentence(of = TERMS, says = OTHERS)
    static void movedBetweenTwoPartsOfAClauseTheyBelongToIt() {
        Doc d = with("abxyz");
        d.addClause(0, 2);
        d.addClause(2, 2);
        d.move(0, 2, 2, 1);
        due(text(d), "[0:a][1:xy][0:b]z");
        d.move(0, 4, 1, 2);
        due(text(d), "[0:a][1:xzy][0:b]");
        Doc e = with("abxyz");
        e.addClause(0, 2);
        e.addClause(2, 3);
        e.move(0, 2, 3, 1);
        e.move(0, 1, 3, 1);
        due(text(e), "[0:a][1:xyz][0:b]");
        e.move(0, 3, 1, 1);
        due(text(e), "[0:a]z[1:xy][0:b]");
        e.move(0, 1, 3, 1);
        due(text(e), "[0:az][1:xy][0:b]");
    }

    // ---- Signatures

    private static final String SIGNATURES = "There are at most 12 signatures, "
        + "numbered from 0 in the order in which they were made.";

    @Sentence(of = TERMS, says = SIGNATURES)
    static void thereAreTwelveSignaturesAtMost() {
        Doc d = withTwelveSignatures();
        due(d.signatures(), 12);
        fails(d, STATE, x -> x.sign(0, 1));
        due(d.state(0), 'v');
        due(d.state(11), 'v');
        fails(d, INDEX, x -> x.state(12));
    }

    @Sentence(of = TERMS, says = SIGNATURES)
    static void voidAndWithdrawnSignaturesMakeNoRoom() {
        Doc d = withTwelveSignatures();
        d.withdraw(3);
        d.delete(0, 0, 1);
        due(d.state(0), 'x');
        fails(d, STATE, x -> x.sign(0, 2));
    }

    private static final String SET = "A signature has an author and one or more clauses, as a set: a number in which "
        + "bit k, with the value 2 to the power of k, is 1 if the clause k belongs to it.";

    @Sentence(of = TERMS, says = SET)
    static void eachBitIsItsClauseAndNoOther() {
        Doc d = with("aabbccddeeff");
        for (int i = 0; i < 6; i++) d.addClause(2 * i, 2);
        for (int i = 0; i < 6; i++) due(d.sign(0, 1 << i), i);
        for (int i = 0; i < 6; i++) {
            d.delete(0, i, 1);
            for (int j = 0; j < 6; j++) due(d.state(j), j <= i ? 'x' : 'v');
        }
    }

    @Sentence(of = TERMS, says = SET)
    static void theSetOfAllSixClauses() {
        for (int i = 0; i < 6; i++) {
            Doc d = with("abcdef");
            for (int j = 0; j < 6; j++) d.addClause(j, 1);
            d.sign(0, 63);
            for (int j = 0; j < 6; j++) due(d.signers(j), 1);
            d.delete(0, i, 1);
            due(d.state(0), 'x');
        }
    }

    @Sentence(of = TERMS, says = "It is valid at first.")
    static void aSignatureIsValidAtFirst() {
        Doc d = withThreeClauses();
        d.delete(0, 0, 1);
        d.lock(1, true);
        due(d.state(d.sign(0, 1)), 'v');
        due(d.state(d.sign(1, 7)), 'v');
        d.delete(0, 0, 2);
        due(d.clauseLength(0), 0);
        due(d.state(d.sign(1, 1)), 'v');
        due(d.state(2), 'v');
        due(d.isUntouched(2), true);
    }

    private static final String VOID = "When an edit changes the words of one of its clauses, a valid signature "
        + "becomes void by this edit, and stays so even if the words are the same again later.";

    @Sentence(of = TERMS, says = VOID)
    static void oneChangedClauseOfSeveralIsEnough() {
        Doc d = withThreeClauses();
        d.sign(0, 5);
        d.delete(0, 3, 1);
        due(d.state(0), 'v');
        d.delete(0, 9, 1);
        due(d.state(0), 'x');
        due(d.voidedBy(0), 2);
    }

    @Sentence(of = TERMS, says = VOID)
    static void insertionDeletionAndMoveMakeVoid() {
        Doc d = withThreeClauses();
        for (int i = 0; i < 3; i++) d.sign(0, 1 << i);
        put(d, 0, 1, "x");
        due(d.voidedBy(0), 1);
        due(d.state(1), 'v');
        d.delete(0, 4, 1);
        due(d.voidedBy(1), 2);
        due(d.state(2), 'v');
        d.move(0, 8, 1, 0);
        due(d.voidedBy(2), 3);
    }

    @Sentence(of = TERMS, says = VOID)
    static void aVoidSignatureStaysVoidThoughTheWordsAreTheSameAgain() {
        Doc d = withThreeClauses();
        d.sign(0, 1);
        d.delete(0, 1, 1);
        put(d, 0, 1, "a");
        due(words(d, 0), "aaa");
        due(d.state(0), 'x');
        due(d.voidedBy(0), 1);
        due(d.isUntouched(0), false);
        due(d.signers(0), 0);
        d.delete(0, 1, 1);
        due(d.voidedBy(0), 1);
    }

    @Sentence(of = TERMS, says = VOID)
    static void aWithdrawnSignatureDoesNotBecomeVoid() {
        Doc d = withThreeClauses();
        d.sign(0, 1);
        d.withdraw(0);
        d.delete(0, 1, 1);
        due(d.state(0), 'w');
        fails(d, NOTHING, x -> x.voidedBy(0));
    }

    @Sentence(of = TERMS, says = "A signature can be withdrawn.")
    static void aWithdrawnSignatureHindersNoEdit() {
        Doc d = withThreeClauses();
        d.sign(0, 1);
        d.setStrict(true);
        refused(d, 's', 0, x -> x.delete(0, 0, 1));
        due(d.withdraw(0), 0);
        due(d.state(0), 'w');
        due(d.delete(0, 0, 1), 10);
    }

    // ---- Refusals

    private static final String AT_FIRST = "A clause can be locked, and the document can be strict; "
        + "initially, it is not.";

    @Sentence(of = TERMS, says = AT_FIRST)
    static void aNewClauseIsNotLocked() {
        Doc d = withThreeClauses();
        due(d.delete(0, 0, 1), 10);
        for (int i = 0; i < 3; i++) due(d.lock(i, true), false);
        due(d.addClause(5, 1), 3);
        due(d.delete(0, 5, 1), 9);
        due(d.lock(3, false), false);
    }

    @Sentence(of = TERMS, says = AT_FIRST)
    static void aNewDocumentIsNotStrict() {
        Doc d = withThreeClauses();
        d.sign(0, 1);
        due(d.delete(0, 0, 1), 10);
        due(d.setStrict(true), false);
    }

    private static final String BY_LOCK = "An edit is refused if it would change the words of a locked clause; "
        + "the reason is 'l', and the subject is the lowest such clause.";

    @Sentence(of = TERMS, says = BY_LOCK)
    static void eachKindOfEditIsRefusedByALock() {
        Doc d = withThreeClauses();
        d.lock(1, true);
        d.type('x');
        refused(d, 'l', 1, x -> x.insert(0, 5));
        refused(d, 'l', 1, x -> x.delete(0, 5, 1));
        refused(d, 'l', 1, x -> x.move(0, 5, 1, 0));
        refused(d, 'l', 1, x -> x.move(0, 0, 1, 4));
        due(d.insert(0, 3), 12);
    }

    @Sentence(of = TERMS, says = BY_LOCK)
    static void theLowestClauseThatIsBothLockedAndChangedIsTheSubject() {
        Doc d = withThreeClauses();
        d.addClause(6, 2);
        d.lock(0, true);
        d.lock(2, true);
        d.lock(3, true);
        refused(d, 'l', 2, x -> x.delete(0, 5, 6));
        refused(d, 'l', 3, x -> x.delete(0, 5, 2));
        refused(d, 'l', 0, x -> x.delete(0, 2, 9));
        refused(d, 'l', 0, x -> x.move(0, 2, 1, 7));
        d.lock(0, false);
        refused(d, 'l', 3, x -> x.move(0, 2, 1, 6));
        due(d.delete(0, 2, 4), 7);
    }

    @Sentence(of = TERMS, says = BY_LOCK)
    static void theLowestAndTheHighestClauseCanBeTheSubject() {
        Doc d = with("abcdef");
        for (int i = 0; i < 6; i++) {
            d.addClause(i, 1);
            d.lock(i, true);
        }
        refused(d, 'l', 0, x -> x.delete(0, 0, 6));
        refused(d, 'l', 5, x -> x.delete(0, 5, 1));
    }

    @Sentence(of = TERMS, says = BY_LOCK)
    static void anEditThatLeavesALockedClauseItsWordsIsNotRefused() {
        Doc d = withThreeClauses();
        d.lock(0, true);
        due(d.move(0, 0, 3, 8), 1);
        due(d.move(0, 8, 1, 9), 2);
        due(d.delete(0, 0, 8), 3);
        due(text(d), "[0:aaa]");
    }

    private static final String BY_SIGNATURE = "Otherwise, if the document is strict, an edit is refused if it would "
        + "make a valid signature void; the reason is 's', and the subject is the lowest such signature.";

    @Sentence(of = TERMS, says = BY_SIGNATURE)
    static void eachKindOfEditIsRefusedByASignature() {
        Doc d = withThreeClauses();
        d.sign(0, 2);
        d.setStrict(true);
        d.type('x');
        refused(d, 's', 0, x -> x.insert(0, 5));
        refused(d, 's', 0, x -> x.delete(0, 5, 1));
        refused(d, 's', 0, x -> x.move(0, 5, 1, 0));
        refused(d, 's', 0, x -> x.move(0, 0, 1, 4));
        due(d.insert(0, 3), 12);
    }

    @Sentence(of = TERMS, says = BY_SIGNATURE)
    static void theLowestValidSignatureThatWouldBecomeVoidIsTheSubject() {
        Doc d = withThreeClauses();
        d.sign(0, 1);
        d.sign(0, 4);
        d.sign(0, 4);
        d.sign(0, 6);
        d.withdraw(1);
        d.setStrict(true);
        refused(d, 's', 2, x -> x.delete(0, 5, 6));
        refused(d, 's', 3, x -> x.delete(0, 5, 1));
        refused(d, 's', 0, x -> x.delete(0, 0, 11));
    }

    @Sentence(of = TERMS, says = BY_SIGNATURE)
    static void aVoidSignatureHindersNoEdit() {
        Doc d = withThreeClauses();
        d.sign(0, 1);
        d.delete(0, 0, 1);
        d.setStrict(true);
        due(d.delete(0, 0, 1), 9);
        d.sign(0, 1);
        refused(d, 's', 1, x -> x.delete(0, 0, 1));
    }

    @Sentence(of = TERMS, says = BY_SIGNATURE)
    static void aLockedClauseComesBeforeAnySignature() {
        Doc d = withThreeClauses();
        d.sign(0, 1);
        d.setStrict(true);
        d.lock(2, true);
        refused(d, 'l', 2, x -> x.delete(0, 0, 11));
        refused(d, 's', 0, x -> x.delete(0, 0, 1));
        d.lock(2, false);
        refused(d, 's', 0, x -> x.delete(0, 0, 11));
    }

    @Sentence(of = TERMS, says = BY_SIGNATURE)
    static void aLockedClauseRefusesThoughTheDocumentIsNotStrict() {
        Doc d = withThreeClauses();
        d.sign(0, 1);
        d.lock(0, true);
        refused(d, 'l', 0, x -> x.delete(0, 0, 1));
        d.lock(0, false);
        due(d.delete(0, 0, 1), 10);
    }

    @Sentence(of = TERMS, says = BY_SIGNATURE)
    static void noneOfTwelveSignaturesWouldBecomeVoid() {
        Doc d = withTwelveSignatures();
        d.setStrict(true);
        due(d.delete(0, 1, 5), 1);
        for (int i = 0; i < 12; i++) due(d.state(i), 'v');
        refused(d, 's', 0, x -> x.delete(0, 0, 1));
    }

    @Sentence(of = TERMS, says = BY_SIGNATURE)
    static void anEditThatLeavesTheSignedWordsIsNotRefused() {
        Doc d = withThreeClauses();
        d.sign(0, 5);
        d.setStrict(true);
        due(d.move(0, 0, 3, 5), 1);
        due(text(d), "[1:bbb]cc[0:aaa][2:ddd]");
        due(d.delete(0, 0, 5), 6);
        due(d.move(0, 0, 1, 1), 3);
        due(d.state(0), 'v');
    }

    // ---- Bills

    private static final String COST = "An edit that is not refused costs its author an amount by the scheme, "
        + "and in addition the present fee for each signature that becomes void by it.";

    @Sentence(of = TERMS, says = COST)
    static void aRefusedEditCostsNothing() {
        Doc d = withThreeClauses();
        d.setFee(100);
        d.sign(0, 1);
        d.lock(0, true);
        throwsNow(d, REFUSED, x -> x.delete(1, 0, 1));
        due(d.bill(1), 0);
        due(d.billAgain(1), 0);
        due(d.bill(0), 11);
    }

    @Sentence(of = TERMS, says = COST)
    static void theFeeIsPaidForEachSignatureThatBecomesVoid() {
        Doc d = withThreeClauses();
        d.setFee(100);
        for (int set = 1; set < 8; set++) d.sign(0, set);
        d.delete(1, 0, 1);
        due(d.editCost(1), 5 + 4 * 100);
        d.delete(1, 2, 8);
        due(d.editCost(2), 5 + 3 * 100);
        d.delete(1, 0, 1);
        due(d.editCost(3), 5);
    }

    @Sentence(of = TERMS, says = COST)
    static void noFeeIsPaidForASignatureThatIsNotValid() {
        Doc d = withThreeClauses();
        d.setFee(100);
        d.sign(0, 1);
        d.sign(0, 1);
        d.withdraw(0);
        d.delete(1, 0, 1);
        due(d.editCost(1), 105);
        d.delete(1, 0, 1);
        due(d.editCost(2), 5);
    }

    @Sentence(of = TERMS, says = COST)
    static void thePresentFeeIsPaidAndNoOther() {
        Doc d = withThreeClauses();
        d.sign(0, 1);
        d.sign(0, 2);
        d.setFee(100);
        d.setFee(7);
        d.delete(1, 0, 1);
        due(d.editCost(1), 12);
        d.setFee(0);
        due(d.editCost(1), 12);
        d.delete(1, 3, 1);
        due(d.editCost(2), 5);
    }

    @Sentence(of = TERMS, says = COST)
    static void twelveFeesOf999AreTheMost() {
        Doc d = withTwelveSignatures();
        d.addAuthor(0, 999);
        d.setFee(999);
        d.delete(1, 0, 6);
        due(d.editCost(1), 6 * 999 + 12 * 999);
        due(d.bill(1), 18 * 999);
        due(d.bill(0), 6);
    }

    private static final String AMOUNT = "With the numbers of inserted, deleted and moved characters "
        + "(two of which are 0), the amount is: by the scheme 0, their sum multiplied by the rate; by the scheme 1, "
        + "the rate; by the scheme 2, the number of inserted ones multiplied by the rate, plus the number of deleted "
        + "ones multiplied by the rate and divided by 2, rounded down; by the scheme 3, the greatest of the three "
        + "numbers, but at least 2, multiplied by the rate.";

    /** The costs of inserting, moving and deleting so many characters. */
    private static String costs(int scheme, int rate, int count) {
        Doc d = new Doc();
        d.addAuthor(scheme, rate);
        put(d, 0, 0, "a".repeat(count));
        d.move(0, 0, count, 0);
        d.delete(0, 0, count);
        return d.editCost(0) + " " + d.editCost(1) + " " + d.editCost(2);
    }

    @Sentence(of = TERMS, says = AMOUNT)
    static void scheme0CostsTheRateForEachCharacter() {
        due(costs(0, 13, 1), "13 13 13");
        due(costs(0, 13, 2), "26 26 26");
        due(costs(0, 999, 20), "19980 19980 19980");
        due(costs(0, 0, 20), "0 0 0");
    }

    @Sentence(of = TERMS, says = AMOUNT)
    static void scheme1CostsTheRate() {
        due(costs(1, 13, 1), "13 13 13");
        due(costs(1, 999, 20), "999 999 999");
        due(costs(1, 0, 20), "0 0 0");
    }

    @Sentence(of = TERMS, says = AMOUNT)
    static void scheme2HalvesDeletionsAndChargesNoMoves() {
        due(costs(2, 14, 1), "14 0 7");
        due(costs(2, 14, 3), "42 0 21");
        due(costs(2, 998, 20), "19960 0 9980");
        due(costs(2, 0, 20), "0 0 0");
    }

    @Sentence(of = TERMS, says = AMOUNT)
    static void scheme2RoundsDownTheWholeProduct() {
        due(costs(2, 1, 1), "1 0 0");
        due(costs(2, 7, 1), "7 0 3");
        due(costs(2, 7, 2), "14 0 7");
        due(costs(2, 7, 3), "21 0 10");
        due(costs(2, 999, 19), "18981 0 9490");
    }

    @Sentence(of = TERMS, says = AMOUNT)
    static void scheme3ChargesAtLeastTwoCharacters() {
        due(costs(3, 11, 1), "22 22 22");
        due(costs(3, 11, 2), "22 22 22");
        due(costs(3, 11, 3), "33 33 33");
        due(costs(3, 999, 20), "19980 19980 19980");
        due(costs(3, 0, 1), "0 0 0");
    }

    @Sentence(of = TERMS, says = AMOUNT)
    static void sixtyCharactersAtOnceAreTheDearest() {
        Doc d = withSixtyCharacters();
        for (int scheme = 0; scheme < 4; scheme++) d.addAuthor(scheme, 999);
        for (int author = 1; author < 5; author++) d.move(author, 0, 60, 0);
        int[] costs = {60 * 999, 999, 0, 60 * 999};
        for (int i = 0; i < 4; i++) due(d.editCost(3 + i), costs[i]);
        d.delete(3, 0, 60);
        due(d.editCost(7), 30 * 999);
    }

    @Sentence(of = TERMS, says = "The fee is from 0 to 999 cents, initially 0.")
    static void theFeeIs0AtFirst() {
        Doc d = withThreeClauses();
        d.sign(0, 1);
        d.delete(1, 0, 1);
        due(d.editCost(1), 5);
        due(d.setFee(1), 0);
    }

    @Sentence(of = TERMS, says = "The fee is from 0 to 999 cents, initially 0.")
    static void theFeeGoesFrom0To999() {
        Doc d = new Doc();
        due(d.setFee(999), 0);
        fails(d, ARGUMENT, x -> x.setFee(1000));
        fails(d, ARGUMENT, x -> x.setFee(-1));
        due(d.setFee(0), 999);
    }

    public static void main(String[] args) {
        run(TermsTest.class);
    }
}
