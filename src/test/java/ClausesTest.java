/** Promises 22 to 26: the boundary cases, each with a test of its own that names its sentence. */
public final class ClausesTest extends Checks {
    private static final String NO_CLAUSE = "Throws `IndexOutOfBoundsException` if there is no such clause";

    /** The clauses that a document with three does not have. */
    private static final int[] NOT_IN_THREE = {-1, 3, 5, 6, LEAST, GREATEST};

    // ---- Promise 22: addClause

    @Sentence(of = "Promise 22", says = "- `count`: the number of its characters, 1 or more")
    static void aClauseOfOneCharacter() {
        Doc d = with("abc");
        due(d.addClause(0, 1), 0);
        due(d.addClause(2, 1), 1);
        due(text(d), "[0:a]b[1:c]");
    }

    @Sentence(of = "Promise 22", says = "- `count`: the number of its characters, 1 or more")
    static void aClauseOfAllCharacters() {
        Doc d = withSixtyCharacters();
        due(d.addClause(0, 60), 0);
        due(d.clauseLength(0), 60);
        due(d.isConsistent(), true);
    }

    @Sentence(of = "Promise 22", says = "Returns the number of the clause.")
    static void theClausesAreNumberedFrom0To5() {
        Doc d = with("abcdef");
        for (int i = 0; i < 6; i++) due(d.addClause(i, 1), i);
        for (int i = 0; i < 6; i++) due(words(d, i), "" + "abcdef".charAt(i));
    }

    private static final String NOT_TO_MARK = "Throws `IndexOutOfBoundsException` if there are not so many characters "
        + "from this position on, or the count is less than 1";

    @Sentence(of = "Promise 22", says = NOT_TO_MARK)
    static void moreThanThereIs() {
        Doc d = with("abc");
        fails(d, INDEX, x -> x.addClause(0, 4));
        fails(d, INDEX, x -> x.addClause(1, 3));
        fails(d, INDEX, x -> x.addClause(2, 2));
        fails(d, INDEX, x -> x.addClause(3, 1));
        fails(d, INDEX, x -> x.addClause(4, 1));
        fails(new Doc(), INDEX, x -> x.addClause(0, 1));
        due(d.addClause(0, 3), 0);
    }

    @Sentence(of = "Promise 22", says = NOT_TO_MARK)
    static void fromANegativePosition() {
        Doc d = with("abc");
        fails(d, INDEX, x -> x.addClause(-1, 1));
        fails(d, INDEX, x -> x.addClause(-1, 2));
        fails(d, INDEX, x -> x.addClause(LEAST, 1));
    }

    /** The sum of position and count wraps around here. */
    @Sentence(of = "Promise 22", says = NOT_TO_MARK)
    static void withAWrapAround() {
        Doc d = with("abc");
        fails(d, INDEX, x -> x.addClause(1, GREATEST));
        fails(d, INDEX, x -> x.addClause(3, GREATEST));
        fails(d, INDEX, x -> x.addClause(GREATEST, 1));
        fails(d, INDEX, x -> x.addClause(GREATEST, GREATEST));
        fails(d, INDEX, x -> x.addClause(LEAST, GREATEST));
        fails(d, INDEX, x -> x.addClause(LEAST, LEAST));
    }

    @Sentence(of = "Promise 22", says = NOT_TO_MARK)
    static void lessThanOneCharacter() {
        Doc d = with("abc");
        fails(d, INDEX, x -> x.addClause(0, 0));
        fails(d, INDEX, x -> x.addClause(3, 0));
        fails(d, INDEX, x -> x.addClause(1, -1));
        fails(d, INDEX, x -> x.addClause(1, LEAST));
        fails(new Doc(), INDEX, x -> x.addClause(0, 0));
    }

    private static final String TOO_MANY = "Throws `IllegalStateException` if there are 6 clauses, "
        + "or one of the characters belongs to a clause";

    @Sentence(of = "Promise 22", says = TOO_MANY)
    static void aSeventhClause() {
        Doc d = with("abcdefg");
        for (int i = 0; i < 5; i++) d.addClause(i, 1);
        due(d.addClause(5, 1), 5);
        fails(d, STATE, x -> x.addClause(6, 1));
    }

    @Sentence(of = "Promise 22", says = TOO_MANY)
    static void theFirstCharacterBelongsToAClause() {
        Doc d = with("abcde");
        d.addClause(1, 2);
        fails(d, STATE, x -> x.addClause(2, 3));
        fails(d, STATE, x -> x.addClause(2, 1));
        due(d.addClause(3, 2), 1);
    }

    @Sentence(of = "Promise 22", says = TOO_MANY)
    static void theLastCharacterBelongsToAClause() {
        Doc d = with("abcde");
        d.addClause(2, 2);
        fails(d, STATE, x -> x.addClause(0, 3));
        fails(d, STATE, x -> x.addClause(3, 1));
        due(d.addClause(0, 2), 1);
    }

    @Sentence(of = "Promise 22", says = TOO_MANY)
    static void aCharacterInTheMiddleBelongsToAClause() {
        Doc d = with("abcde");
        d.addClause(2, 1);
        fails(d, STATE, x -> x.addClause(0, 5));
        fails(d, STATE, x -> x.addClause(1, 3));
        fails(d, STATE, x -> x.addClause(2, 1));
    }

    /** A character that has left its clause is free again. */
    @Sentence(of = "Promise 22", says = TOO_MANY)
    static void aCharacterThatBelongedToAClauseOnce() {
        Doc d = with("abcde");
        d.addClause(0, 2);
        fails(d, STATE, x -> x.addClause(0, 1));
        d.move(0, 0, 1, 4);
        due(text(d), "[0:b]cdea");
        due(d.addClause(3, 2), 1);
        due(text(d), "[0:b]cd[1:ea]");
        due(d.isConsistent(), true);
    }

    // ---- Promise 23: clauses

    @Sentence(of = "Promise 23", says = "Returns the number of clauses.")
    static void clausesFrom0To6() {
        Doc d = with("abcdefg");
        for (int i = 0; i < 6; i++) {
            due(d.clauses(), i);
            d.addClause(i, 1);
        }
        due(d.clauses(), 6);
        throwsNow(d, STATE, x -> x.addClause(6, 1));
        d.delete(0, 0, 7);
        due(d.clauses(), 6);
    }

    // ---- Promise 24: clauseLength

    @Sentence(of = "Promise 24", says = "Returns the number of characters of a clause.")
    static void lengthsFrom0To60() {
        Doc d = withSixtyCharacters();
        d.addClause(0, 60);
        due(d.clauseLength(0), 60);
        d.delete(0, 1, 59);
        due(d.clauseLength(0), 1);
        d.delete(0, 0, 1);
        due(d.clauseLength(0), 0);
    }

    @Sentence(of = "Promise 24", says = "Returns the number of characters of a clause.")
    static void theCharactersBehindAGapAreCounted() {
        Doc d = with("abcxy");
        d.addClause(0, 3);
        d.addClause(3, 2);
        d.move(0, 3, 2, 1);
        due(text(d), "[0:a][1:xy][0:bc]");
        due(d.clauseLength(0), 3);
        due(d.clauseLength(1), 2);
    }

    @Sentence(of = "Promise 24", says = NO_CLAUSE)
    static void theLengthOfNoSuchClause() {
        fails(with("a"), INDEX, x -> x.clauseLength(0));
        for (int bad : NOT_IN_THREE) fails(withThreeClauses(), INDEX, x -> x.clauseLength(bad));
        fails(withTwelveSignatures(), INDEX, x -> x.clauseLength(6));
    }

    // ---- Promise 25: lock

    @Sentence(of = "Promise 25", says = "- `isLocked`: true if it is locked from now on")
    static void lockingAndUnlocking() {
        Doc d = withThreeClauses();
        d.lock(0, true);
        refused(d, 'l', 0, x -> x.delete(0, 0, 1));
        d.lock(0, false);
        due(d.delete(0, 0, 1), 10);
        d.lock(2, true);
        due(d.delete(0, 0, 1), 9);
        refused(d, 'l', 2, x -> x.delete(0, 8, 1));
    }

    @Sentence(of = "Promise 25", says = "Returns true if it was locked before.")
    static void lockingTwiceAndUnlockingTwice() {
        Doc d = withThreeClauses();
        due(d.lock(1, false), false);
        due(d.lock(1, true), false);
        due(d.lock(1, true), true);
        due(d.lock(0, true), false);
        due(d.lock(2, false), false);
        due(d.lock(1, false), true);
        due(d.lock(1, false), false);
        due(d.lock(0, false), true);
    }

    @Sentence(of = "Promise 25", says = NO_CLAUSE)
    static void lockingNoSuchClause() {
        fails(with("a"), INDEX, x -> x.lock(0, true));
        for (int bad : NOT_IN_THREE) {
            fails(withThreeClauses(), INDEX, x -> x.lock(bad, true));
            fails(withThreeClauses(), INDEX, x -> x.lock(bad, false));
        }
        fails(withTwelveSignatures(), INDEX, x -> x.lock(6, true));
    }

    // ---- Promise 26: signers

    private static final String SIGNERS = "Returns the set of authors who have a valid signature over some clauses "
        + "to which this one belongs.";

    @Sentence(of = "Promise 26", says = SIGNERS)
    static void aClauseThatNobodySigned() {
        Doc d = withThreeClauses();
        for (int i = 0; i < 3; i++) due(d.signers(i), 0);
        d.sign(0, 5);
        due(d.signers(0), 1);
        due(d.signers(1), 0);
        due(d.signers(2), 1);
    }

    @Sentence(of = "Promise 26", says = SIGNERS)
    static void aVoidSignatureDoesNotCount() {
        Doc d = withThreeClauses();
        d.sign(0, 3);
        d.sign(1, 1);
        d.delete(0, 3, 1);
        due(d.signers(0), 2);
        due(d.signers(1), 0);
    }

    @Sentence(of = "Promise 26", says = SIGNERS)
    static void aWithdrawnSignatureDoesNotCount() {
        Doc d = withThreeClauses();
        d.sign(0, 3);
        d.sign(1, 1);
        d.withdraw(1);
        due(d.signers(0), 1);
        d.withdraw(0);
        due(d.signers(0), 0);
    }

    @Sentence(of = "Promise 26", says = SIGNERS)
    static void anAuthorWithTwoSignaturesNeedsOneThatIsValid() {
        Doc d = withThreeClauses();
        d.sign(1, 1);
        d.sign(1, 3);
        due(d.signers(0), 2);
        d.delete(0, 3, 1);
        due(d.signers(0), 2);
        d.withdraw(0);
        due(d.signers(0), 0);
    }

    @Sentence(of = "Promise 26", says = "Returns the set, as a number in which bit k is 1 if the author k belongs to it.")
    static void eachAuthorHasABitFrom0To4() {
        Doc d = withThreeClauses();
        for (int i = 2; i < 5; i++) d.addAuthor(0, 0);
        int set = 0;
        for (int i = 4; i >= 0; i--) {
            d.sign(i, 1);
            set |= 1 << i;
            due(d.signers(0), set);
        }
        due(set, 31);
    }

    @Sentence(of = "Promise 26", says = NO_CLAUSE)
    static void theSignersOfNoSuchClause() {
        fails(with("a"), INDEX, x -> x.signers(0));
        for (int bad : NOT_IN_THREE) fails(withThreeClauses(), INDEX, x -> x.signers(bad));
        fails(withTwelveSignatures(), INDEX, x -> x.signers(6));
        fails(withTwelveSignatures(), INDEX, x -> x.signers(32));
    }

    public static void main(String[] args) {
        run(ClausesTest.class);
    }
}
