/** Promises 27 to 33: the boundary cases, each with a test of its own that names its sentence. */
public final class SignaturesTest extends Checks {
    private static final String NO_SIGNATURE = "Throws `IndexOutOfBoundsException` if there is no such signature";

    /** The signatures that a document with three does not have. */
    private static final int[] NOT_IN_THREE = {-1, 3, 11, 12, LEAST, GREATEST};

    /** Three clauses, and a signature of the author 0 over each. */
    private static Doc withThreeSignatures() {
        Doc d = withThreeClauses();
        for (int i = 0; i < 3; i++) d.sign(0, 1 << i);
        return d;
    }

    // ---- Promise 27: sign

    @Sentence(of = "Promise 27", says = "Returns the number of the signature.")
    static void theSignaturesAreNumberedFrom0To11() {
        Doc d = withThreeClauses();
        for (int i = 0; i < 12; i++) due(d.sign(i % 2, 1 + i % 7), i);
        for (int i = 0; i < 12; i++) due(d.state(i), 'v');
    }

    @Sentence(of = "Promise 27", says = "Throws `IndexOutOfBoundsException` if there is no such author")
    static void signedByNoSuchAuthor() {
        Doc d = withThreeClauses();
        for (int bad : new int[] {-1, 2, 4, 5, LEAST, GREATEST}) fails(d, INDEX, x -> x.sign(bad, 1));
        fails(new Doc(), INDEX, x -> x.sign(0, 1));
        due(d.sign(1, 1), 0);
    }

    private static final String WRONG_SET = "Throws `IllegalArgumentException` if the set is empty "
        + "or contains a clause that does not exist";

    @Sentence(of = "Promise 27", says = WRONG_SET)
    static void anEmptySet() {
        fails(withThreeClauses(), ARGUMENT, x -> x.sign(0, 0));
        fails(withTwelveSignatures(), ARGUMENT, x -> x.sign(0, 0));
        fails(with("a"), ARGUMENT, x -> x.sign(0, 0));
    }

    @Sentence(of = "Promise 27", says = WRONG_SET)
    static void theNextClauseDoesNotExist() {
        Doc d = with("abcdef");
        for (int i = 0; i < 6; i++) {
            int next = 1 << i;
            fails(d, ARGUMENT, x -> x.sign(0, next));
            fails(d, ARGUMENT, x -> x.sign(0, next | 1));
            d.addClause(i, 1);
            due(d.sign(0, next), i);
        }
        fails(d, ARGUMENT, x -> x.sign(0, 64));
        fails(d, ARGUMENT, x -> x.sign(0, 65));
        due(d.sign(0, 63), 6);
    }

    @Sentence(of = "Promise 27", says = WRONG_SET)
    static void theClauses30And31DoNotExist() {
        Doc d = withThreeClauses();
        for (int bad : new int[] {LEAST, LEAST + 1, GREATEST, -1, -8, 1 << 30, 1 << 30 | 1}) {
            fails(d, ARGUMENT, x -> x.sign(0, bad));
        }
    }

    @Sentence(of = "Promise 27", says = "Throws `IllegalStateException` if there are 12 signatures")
    static void aThirteenthSignature() {
        Doc d = withThreeClauses();
        for (int i = 0; i < 11; i++) d.sign(0, 1);
        due(d.sign(1, 7), 11);
        fails(d, STATE, x -> x.sign(0, 1));
        fails(d, STATE, x -> x.sign(1, 7));
    }

    // ---- Promise 28: withdraw

    @Sentence(of = "Promise 28", says = "Returns the number of valid signatures afterwards.")
    static void validSignaturesFrom11To0() {
        Doc d = withTwelveSignatures();
        for (int i = 0; i < 12; i++) due(d.withdraw(i), 11 - i);
    }

    @Sentence(of = "Promise 28", says = "Returns the number of valid signatures afterwards.")
    static void neitherVoidNorWithdrawnOnesAreCounted() {
        Doc d = withThreeSignatures();
        d.sign(1, 7);
        d.sign(1, 4);
        due(d.withdraw(1), 4);
        d.delete(0, 0, 1);
        due(d.withdraw(2), 1);
        due(d.withdraw(4), 0);
    }

    @Sentence(of = "Promise 28", says = NO_SIGNATURE)
    static void withdrawNoSuchSignature() {
        fails(withThreeClauses(), INDEX, x -> x.withdraw(0));
        for (int bad : NOT_IN_THREE) fails(withThreeSignatures(), INDEX, x -> x.withdraw(bad));
        fails(withTwelveSignatures(), INDEX, x -> x.withdraw(12));
    }

    @Sentence(of = "Promise 28", says = "Throws `IllegalStateException` if it is not valid")
    static void withdrawAVoidSignature() {
        Doc d = withThreeSignatures();
        d.delete(0, 0, 1);
        fails(d, STATE, x -> x.withdraw(0));
        due(d.withdraw(1), 1);
    }

    @Sentence(of = "Promise 28", says = "Throws `IllegalStateException` if it is not valid")
    static void withdrawASignatureTwice() {
        Doc d = withThreeSignatures();
        due(d.withdraw(1), 2);
        fails(d, STATE, x -> x.withdraw(1));
    }

    // ---- Promise 29: signatures

    @Sentence(of = "Promise 29", says = "Returns the number of signatures, void and withdrawn ones included.")
    static void voidAndWithdrawnSignaturesAreIncluded() {
        Doc d = withThreeSignatures();
        d.withdraw(0);
        due(d.signatures(), 3);
        d.delete(0, 3, 8);
        due(d.state(1), 'x');
        due(d.state(2), 'x');
        due(d.signatures(), 3);
    }

    @Sentence(of = "Promise 29", says = "Returns the number of signatures.")
    static void signaturesFrom0To12() {
        Doc d = withThreeClauses();
        for (int i = 0; i < 12; i++) {
            due(d.signatures(), i);
            d.sign(0, 1);
        }
        due(d.signatures(), 12);
        throwsNow(d, STATE, x -> x.sign(0, 1));
        due(d.signatures(), 12);
    }

    // ---- Promise 30: state

    @Sentence(of = "Promise 30", says = "Returns 'v' if it is valid, 'x' if it is void, 'w' if it is withdrawn.")
    static void theThreeStates() {
        Doc d = withThreeSignatures();
        due(d.state(0), 'v');
        due(d.state(1), 'v');
        due(d.state(2), 'v');
        d.delete(0, 0, 1);
        d.withdraw(2);
        due(d.state(0), 'x');
        due(d.state(1), 'v');
        due(d.state(2), 'w');
    }

    @Sentence(of = "Promise 30", says = "Returns 'v' if it is valid, 'x' if it is void, 'w' if it is withdrawn.")
    static void aRefusedEditMakesNoSignatureVoid() {
        Doc d = withThreeSignatures();
        d.lock(0, true);
        throwsNow(d, REFUSED, x -> x.delete(0, 0, 11));
        d.lock(0, false);
        d.setStrict(true);
        throwsNow(d, REFUSED, x -> x.delete(0, 0, 11));
        for (int i = 0; i < 3; i++) due(d.state(i), 'v');
    }

    @Sentence(of = "Promise 30", says = NO_SIGNATURE)
    static void theStateOfNoSuchSignature() {
        fails(withThreeClauses(), INDEX, x -> x.state(0));
        for (int bad : NOT_IN_THREE) fails(withThreeSignatures(), INDEX, x -> x.state(bad));
        fails(withTwelveSignatures(), INDEX, x -> x.state(12));
    }

    // ---- Promise 31: isUntouched

    private static final String UNTOUCHED = "Returns whether the words of the clauses of a signature were the same "
        + "after each edit since it was made, computed by doing all edits again, whether it is withdrawn or not.";

    @Sentence(of = "Promise 31", says = UNTOUCHED)
    static void withoutAnyEditSinceItIsUntouched() {
        Doc d = withThreeClauses();
        d.delete(0, 0, 1);
        d.sign(0, 1);
        due(d.isUntouched(0), true);
        Doc last = with("abc");
        last.addClause(0, 3);
        for (int i = 1; i < 40; i++) last.move(0, 0, 1, 2);
        last.addClause(0, 1);
        due(last.isUntouched(last.sign(0, 3)), true);
    }

    /** The edit right before the signing does not touch it, the one right after does. */
    @Sentence(of = "Promise 31", says = UNTOUCHED)
    static void onlyEditsSinceItWasMadeCount() {
        Doc d = withThreeClauses();
        d.sign(0, 1);
        d.delete(0, 0, 1);
        d.sign(0, 1);
        due(d.isUntouched(0), false);
        due(d.isUntouched(1), true);
        d.delete(0, 0, 1);
        due(d.isUntouched(1), false);
    }

    @Sentence(of = "Promise 31", says = UNTOUCHED)
    static void wordsThatAreTheSameAgainWereTouched() {
        Doc d = withThreeClauses();
        d.sign(0, 1);
        d.withdraw(0);
        d.delete(0, 1, 1);
        due(d.isUntouched(0), false);
        put(d, 0, 1, "a");
        due(words(d, 0), "aaa");
        due(d.isUntouched(0), false);
    }

    /** Also if the last edit leaves the words, or changes others. */
    @Sentence(of = "Promise 31", says = UNTOUCHED)
    static void aTouchIsNotUndoneByLaterEdits() {
        Doc d = withThreeSignatures();
        d.delete(0, 0, 1);
        d.move(0, 0, 2, 2);
        due(d.isUntouched(0), false);
        due(d.isUntouched(1), true);
        d.delete(0, d.length() - 1, 1);
        due(d.isUntouched(0), false);
        due(d.isUntouched(1), true);
        due(d.isUntouched(2), false);
        due(d.isConsistent(), true);
    }

    @Sentence(of = "Promise 31", says = UNTOUCHED)
    static void aWithdrawnSignatureCanBeTouchedToo() {
        Doc d = withThreeSignatures();
        d.withdraw(0);
        d.withdraw(1);
        due(d.isUntouched(0), true);
        d.delete(0, 0, 1);
        due(d.state(0), 'w');
        due(d.isUntouched(0), false);
        due(d.isUntouched(1), true);
    }

    @Sentence(of = "Promise 31", says = UNTOUCHED)
    static void aTouchBeforeItWasWithdrawnCountsToo() {
        Doc d = withThreeClauses();
        d.sign(0, 3);
        d.move(0, 0, 3, 3);
        due(d.isUntouched(0), true);
        d.withdraw(0);
        due(d.isUntouched(0), true);
        d.move(0, 0, 1, 10);
        due(d.isUntouched(0), false);
    }

    @Sentence(of = "Promise 31", says = UNTOUCHED)
    static void oneTouchedClauseOfSeveralIsEnough() {
        Doc d = withThreeClauses();
        d.sign(0, 7);
        d.sign(0, 3);
        d.delete(0, 8, 1);
        due(d.isUntouched(0), false);
        due(d.isUntouched(1), true);
        d.delete(0, 0, 1);
        due(d.isUntouched(1), false);
    }

    /** Neither text around nor a move of the whole clause nor equal letters in other places touch it. */
    @Sentence(of = "Promise 31", says = "Returns true if they were the same after each of these edits.")
    static void editsThatLeaveTheWordsDoNotTouchIt() {
        Doc d = withThreeClauses();
        d.sign(0, 1);
        d.move(0, 0, 1, 1);
        d.move(0, 0, 3, 8);
        d.delete(0, 0, 5);
        put(d, 0, 0, "xyz");
        put(d, 0, 9, "xyz");
        due(text(d), "xyz[2:ddd][0:aaa]xyz");
        due(d.isUntouched(0), true);
        due(d.state(0), 'v');
    }

    @Sentence(of = "Promise 31", says = "Returns true if they were the same after each of these edits.")
    static void aRefusedEditDoesNotTouchIt() {
        Doc d = withThreeClauses();
        d.sign(0, 1);
        d.lock(0, true);
        throwsNow(d, REFUSED, x -> x.delete(0, 0, 1));
        due(d.isUntouched(0), true);
    }

    /** A clause that is added between two edits is added there again. */
    @Sentence(of = "Promise 31", says = "Returns true if they were the same after each of these edits.")
    static void aClauseAddedBetweenEditsIsNoTouch() {
        Doc d = with("abcd");
        d.addClause(0, 2);
        d.sign(0, 1);
        d.addClause(2, 2);
        due(d.isUntouched(0), true);
        d.sign(0, 2);
        d.move(0, 0, 2, 2);
        due(d.isUntouched(0), true);
        due(d.isUntouched(1), true);
    }

    @Sentence(of = "Promise 31", says = NO_SIGNATURE)
    static void isNoSuchSignatureUntouched() {
        fails(withThreeClauses(), INDEX, x -> x.isUntouched(0));
        for (int bad : NOT_IN_THREE) fails(withThreeSignatures(), INDEX, x -> x.isUntouched(bad));
        fails(withTwelveSignatures(), INDEX, x -> x.isUntouched(12));
    }

    // ---- Promise 32: voidedBy

    @Sentence(of = "Promise 32", says = "Returns the edit by which a signature became void.")
    static void theFirstEditThatChangedTheWords() {
        Doc d = withThreeSignatures();
        d.sign(0, 7);
        d.move(0, 6, 2, 9);
        d.delete(0, 0, 1);
        d.delete(0, 0, 1);
        d.delete(0, 1, 1);
        due(d.voidedBy(0), 2);
        due(d.voidedBy(3), 2);
        due(d.voidedBy(1), 4);
    }

    @Sentence(of = "Promise 32", says = "Returns the edit by which a signature became void.")
    static void theEdits1And39() {
        Doc d = withThreeSignatures();
        d.delete(0, 0, 1);
        for (int i = 2; i < 39; i++) d.move(0, 0, 1, 0);
        d.delete(0, d.length() - 1, 1);
        due(d.edits(), 40);
        due(d.voidedBy(0), 1);
        due(d.voidedBy(2), 39);
    }

    /** Refused edits have no number, so they are not counted here either. */
    @Sentence(of = "Promise 32", says = "Returns the edit by which a signature became void.")
    static void refusedEditsAreNotCounted() {
        Doc d = withThreeSignatures();
        d.lock(0, true);
        throwsNow(d, REFUSED, x -> x.delete(0, 0, 1));
        throwsNow(d, REFUSED, x -> x.delete(0, 1, 1));
        d.lock(0, false);
        d.delete(0, 0, 1);
        due(d.voidedBy(0), 1);
    }

    @Sentence(of = "Promise 32", says = NO_SIGNATURE)
    static void noSuchSignatureBecameVoid() {
        fails(withThreeClauses(), INDEX, x -> x.voidedBy(0));
        Doc d = withThreeSignatures();
        d.delete(0, 0, 11);
        for (int bad : NOT_IN_THREE) fails(d, INDEX, x -> x.voidedBy(bad));
        Doc full = withTwelveSignatures();
        full.delete(0, 0, 1);
        due(full.voidedBy(11), 1);
        fails(full, INDEX, x -> x.voidedBy(12));
    }

    @Sentence(of = "Promise 32", says = "Throws `NoSuchElementException` if it is not void")
    static void aValidSignatureIsNotVoid() {
        Doc d = withThreeSignatures();
        for (int i = 0; i < 3; i++) {
            int signature = i;
            fails(d, NOTHING, x -> x.voidedBy(signature));
        }
        d.delete(0, 3, 1);
        fails(d, NOTHING, x -> x.voidedBy(0));
        due(d.voidedBy(1), 1);
        fails(d, NOTHING, x -> x.voidedBy(2));
    }

    @Sentence(of = "Promise 32", says = "Throws `NoSuchElementException` if it is not void")
    static void aWithdrawnSignatureIsNotVoid() {
        Doc d = withThreeSignatures();
        d.withdraw(0);
        fails(d, NOTHING, x -> x.voidedBy(0));
        d.delete(0, 0, 1);
        fails(d, NOTHING, x -> x.voidedBy(0));
    }

    // ---- Promise 33: setStrict

    @Sentence(of = "Promise 33", says = "- `isStrict`: true if it is strict from now on")
    static void strictAndNotStrict() {
        Doc d = withThreeSignatures();
        d.setStrict(true);
        refused(d, 's', 0, x -> x.delete(0, 0, 1));
        d.setStrict(false);
        due(d.delete(0, 0, 1), 10);
        d.setStrict(true);
        refused(d, 's', 1, x -> x.delete(0, 2, 1));
    }

    /** What became void before stays so. */
    @Sentence(of = "Promise 33", says = "- `isStrict`: true if it is strict from now on")
    static void strictFromNowOnOnly() {
        Doc d = withThreeSignatures();
        d.delete(0, 0, 1);
        d.setStrict(true);
        due(d.state(0), 'x');
        due(d.delete(0, 0, 1), 9);
    }

    @Sentence(of = "Promise 33", says = "Returns true if it was strict before.")
    static void strictTwiceAndNotStrictTwice() {
        Doc d = new Doc();
        due(d.setStrict(false), false);
        due(d.setStrict(true), false);
        due(d.setStrict(true), true);
        due(d.setStrict(false), true);
        due(d.setStrict(false), false);
    }

    public static void main(String[] args) {
        run(SignaturesTest.class);
    }
}
