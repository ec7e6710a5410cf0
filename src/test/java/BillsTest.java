/** Promises 34 to 38: the boundary cases, each with a test of its own that names its sentence. */
public final class BillsTest extends Checks {
    private static final String NO_AUTHOR = "Throws `IndexOutOfBoundsException` if there is no such author";

    /** The authors that a document with two does not have. */
    private static final int[] NOT_IN_TWO = {-1, 2, 4, 5, LEAST, GREATEST};

    // ---- Promise 34: setFee

    @Sentence(of = "Promise 34", says = "- `cents`: the new fee, 0 to 999")
    static void theFees0And999() {
        for (int fee : new int[] {0, 1, 998, 999}) {
            Doc d = withThreeClauses();
            d.sign(0, 1);
            d.setFee(fee);
            d.delete(1, 0, 1);
            due(d.editCost(1), 5 + fee);
        }
    }

    @Sentence(of = "Promise 34", says = "Returns the previous fee.")
    static void thePreviousFeeIs0AtFirst() {
        Doc d = new Doc();
        due(d.setFee(999), 0);
        due(d.setFee(999), 999);
        due(d.setFee(0), 999);
        due(d.setFee(1), 0);
    }

    private static final String OUT_OF_RANGE = "Throws `IllegalArgumentException` if the fee is out of range";

    @Sentence(of = "Promise 34", says = OUT_OF_RANGE)
    static void aFeeBelow0() {
        fails(new Doc(), ARGUMENT, x -> x.setFee(-1));
        fails(new Doc(), ARGUMENT, x -> x.setFee(LEAST));
    }

    @Sentence(of = "Promise 34", says = OUT_OF_RANGE)
    static void aFeeAbove999() {
        fails(new Doc(), ARGUMENT, x -> x.setFee(1000));
        fails(new Doc(), ARGUMENT, x -> x.setFee(GREATEST));
        Doc d = new Doc();
        d.setFee(7);
        throwsNow(d, ARGUMENT, x -> x.setFee(1000));
        due(d.setFee(0), 7);
    }

    // ---- Promises 35 and 36: bill, billAgain

    private static void dueBill(Doc d, int author, long cents) {
        due(d.bill(author), cents);
        due(d.billAgain(author), cents);
    }

    private static final String BILL = "Returns the bill of an author, as it was added up edit by edit.";

    @Sentence(of = "Promise 35", says = BILL)
    static void anAuthorWithoutEditsOwesNothing() {
        Doc d = withThreeClauses();
        due(d.bill(0), 11);
        due(d.bill(1), 0);
        d.delete(0, 0, 1);
        due(d.bill(0), 12);
        due(d.bill(1), 0);
    }

    /** The author of the edit pays, not those of the characters or of the signatures. */
    @Sentence(of = "Promise 35", says = BILL)
    static void theAuthorOfTheEditPays() {
        Doc d = withThreeClauses();
        d.sign(0, 1);
        d.setFee(100);
        d.delete(1, 0, 1);
        due(d.bill(0), 11);
        due(d.bill(1), 105);
    }

    @Sentence(of = "Promise 35", says = BILL)
    static void theBillIsTheSumOfTheCosts() {
        Doc d = withAllLimitsReached();
        long[] sums = new long[5];
        for (int i = 0; i < 40; i++) sums[d.editAuthor(i)] += d.editCost(i);
        for (int i = 0; i < 5; i++) due(d.bill(i), sums[i]);
    }

    /** Forty edits of 60 characters at 999 cents, the last one with twelve fees. */
    @Sentence(of = "Promise 35", says = BILL)
    static void theGreatestBill() {
        Doc d = new Doc();
        d.addAuthor(0, 999);
        for (int i = 0; i < 3; i++) put(d, 0, 0, "x".repeat(20));
        d.addClause(0, 60);
        for (int i = 0; i < 12; i++) d.sign(0, 1);
        d.setFee(999);
        for (int i = 3; i < 39; i++) d.move(0, 0, 60, 0);
        d.delete(0, 0, 60);
        dueBill(d, 0, 60 * 999L + 37 * 60 * 999L + 12 * 999L);
    }

    @Sentence(of = "Promise 35", says = NO_AUTHOR)
    static void theBillOfNoSuchAuthor() {
        fails(new Doc(), INDEX, x -> x.bill(0));
        for (int bad : NOT_IN_TWO) fails(withThreeClauses(), INDEX, x -> x.bill(bad));
        fails(withAllLimitsReached(), INDEX, x -> x.bill(5));
    }

    private static final String AGAIN = "Returns the bill of an author, computed again from the numbers of characters "
        + "of all edits, the scheme and the rate, and the fees of that time.";

    @Sentence(of = "Promise 36", says = AGAIN)
    static void theFeesOfThatTimeArePaid() {
        Doc d = withThreeClauses();
        d.sign(0, 1);
        d.sign(0, 1);
        d.sign(0, 2);
        d.setFee(10);
        d.delete(1, 0, 1);
        d.setFee(999);
        due(d.billAgain(1), 5 + 2 * 10);
        d.delete(1, 2, 1);
        d.setFee(0);
        due(d.billAgain(1), 5 + 2 * 10 + 5 + 999);
        due(d.bill(1), 5 + 2 * 10 + 5 + 999);
    }

    @Sentence(of = "Promise 36", says = AGAIN)
    static void eachDeletionIsRoundedDownByItself() {
        Doc d = with("abcdef");
        d.addAuthor(2, 7);
        d.delete(1, 0, 1);
        d.delete(1, 0, 1);
        due(d.billAgain(1), 3 + 3);
        d.delete(1, 0, 3);
        due(d.billAgain(1), 3 + 3 + 10);
        due(d.bill(1), 3 + 3 + 10);
    }

    @Sentence(of = "Promise 36", says = AGAIN)
    static void eachKindOfEditIsComputedAgain() {
        long[] bills = {20 * 13 + 20 * 13 + 20 * 13, 3 * 13, 20 * 13 + 130, 3 * 20 * 13};
        for (int scheme = 0; scheme < 4; scheme++) {
            Doc d = new Doc();
            d.addAuthor(scheme, 13);
            put(d, 0, 0, "x".repeat(20));
            d.move(0, 0, 20, 0);
            d.delete(0, 0, 20);
            due(d.billAgain(0), bills[scheme]);
        }
    }

    @Sentence(of = "Promise 36", says = AGAIN)
    static void anAuthorWithoutEditsOwesNothingAgain() {
        Doc d = withThreeClauses();
        due(d.billAgain(0), 11);
        due(d.billAgain(1), 0);
        d.lock(0, true);
        throwsNow(d, REFUSED, x -> x.delete(1, 0, 1));
        due(d.billAgain(1), 0);
    }

    @Sentence(of = "Promise 36", says = NO_AUTHOR)
    static void theBillAgainOfNoSuchAuthor() {
        fails(new Doc(), INDEX, x -> x.billAgain(0));
        for (int bad : NOT_IN_TWO) fails(withThreeClauses(), INDEX, x -> x.billAgain(bad));
        fails(withAllLimitsReached(), INDEX, x -> x.billAgain(5));
    }

    // ---- Promise 37: share

    private static final String SHARE = "Returns the share of the text that an author inserted: the number of "
        + "characters that have this author divided by the length of the text, both converted to float.";

    @Sentence(of = "Promise 37", says = SHARE)
    static void theSharesOfAllAndOfNothing() {
        Doc d = withThreeClauses();
        dueD(d.share(0), 1.0);
        dueD(d.share(1), 0.0);
        d.delete(1, 0, 5);
        d.move(1, 0, 1, 3);
        dueD(d.share(0), 1.0);
        dueD(d.share(1), 0.0);
    }

    @Sentence(of = "Promise 37", says = SHARE)
    static void theShareIsDividedAsFloat() {
        Doc d = withThreeClauses();
        d.delete(0, 0, 9);
        put(d, 1, 1, "x");
        dueD(d.share(0), 2f / 3f);
        dueD(d.share(1), 1f / 3f);
        put(d, 1, 0, "yyyy");
        dueD(d.share(0), 2f / 7f);
        dueD(d.share(1), 5f / 7f);
    }

    @Sentence(of = "Promise 37", says = SHARE)
    static void theShareOfOneCharacterInSixty() {
        Doc d = withSixtyCharacters();
        d.addAuthor(0, 0);
        d.delete(0, 0, 1);
        put(d, 1, 59, "x");
        dueD(d.share(1), 1f / 60f);
        dueD(d.share(0), 59f / 60f);
    }

    @Sentence(of = "Promise 37", says = NO_AUTHOR)
    static void theShareOfNoSuchAuthor() {
        fails(new Doc(), INDEX, x -> x.share(0));
        for (int bad : NOT_IN_TWO) fails(withThreeClauses(), INDEX, x -> x.share(bad));
        fails(withAllLimitsReached(), INDEX, x -> x.share(5));
    }

    @Sentence(of = "Promise 37", says = "Throws `ArithmeticException` if the text is empty")
    static void theShareOfAnEmptyText() {
        Doc d = new Doc();
        d.addAuthor(0, 1);
        fails(d, ARITHMETIC, x -> x.share(0));
        put(d, 0, 0, "a");
        dueD(d.share(0), 1.0);
        d.delete(0, 0, 1);
        fails(d, ARITHMETIC, x -> x.share(0));
    }

    // ---- Promise 38: meanCost

    private static final String MEAN = "Returns the mean cost of the edits: the sum of their costs divided by their "
        + "number, both converted to double.";

    @Sentence(of = "Promise 38", says = MEAN)
    static void theMeanOfOneEditAndOfCostsOf0() {
        dueD(with("abc").meanCost(), 3.0);
        Doc d = new Doc();
        d.addAuthor(0, 0);
        put(d, 0, 0, "abc");
        dueD(d.meanCost(), 0.0);
    }

    @Sentence(of = "Promise 38", says = MEAN)
    static void theMeanIsDividedAsDouble() {
        Doc d = with("ab");
        d.move(0, 0, 1, 0);
        dueD(d.meanCost(), 1.5);
        d.move(0, 0, 1, 0);
        dueD(d.meanCost(), 4.0 / 3.0);
        Doc full = withFortyEdits();
        dueD(full.meanCost(), 42.0 / 40.0);
    }

    @Sentence(of = "Promise 38", says = MEAN)
    static void theMeanIncludesFeesAndAllAuthors() {
        Doc d = withThreeClauses();
        d.sign(0, 1);
        d.setFee(100);
        d.delete(1, 0, 1);
        d.lock(0, true);
        throwsNow(d, REFUSED, x -> x.delete(1, 0, 1));
        dueD(d.meanCost(), (11 + 105) / 2.0);
        d.delete(0, 2, 1);
        dueD(d.meanCost(), (11 + 105 + 1) / 3.0);
    }

    @Sentence(of = "Promise 38", says = "Throws `ArithmeticException` if there are no edits")
    static void theMeanOfNoEdits() {
        Doc d = new Doc();
        fails(d, ARITHMETIC, x -> x.meanCost());
        d.addAuthor(0, 1);
        d.type('a');
        fails(d, ARITHMETIC, x -> x.meanCost());
        d.insert(0, 0);
        dueD(d.meanCost(), 1.0);
    }

    public static void main(String[] args) {
        run(BillsTest.class);
    }
}
