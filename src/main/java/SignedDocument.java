import java.util.NoSuchElementException;

/** A shared document with tracked clauses and signatures. */
public final class SignedDocument {
    private static final int MAX_AUTHORS = 5;
    private static final int MAX_SCHEME = 3;
    private static final int MAX_CENTS = 999;
    private static final int MAX_TYPED = 20;
    private static final int MAX_TEXT = 60;
    private static final int MAX_CLAUSES = 6;
    private static final int MAX_EDITS = 40;
    private static final int MAX_SIGNATURES = 12;
    /** Each character may stand alone in its clause, and is then written as "[0:a]". */
    private static final int MAX_OUTPUT = 5 * MAX_TEXT;

    private static final int NONE = -1;

    private static final int SCHEME_BY_CHARACTER = 0;
    private static final int SCHEME_FLAT = 1;
    private static final int SCHEME_HALF_DELETIONS = 2;
    private static final int SCHEME_3_LEAST_COUNT = 2;

    private static final char INSERTION = 'i';
    private static final char DELETION = 'd';
    private static final char MOVE = 'm';

    private static final char VALID = 'v';
    private static final char VOID = 'x';
    private static final char WITHDRAWN = 'w';

    private static final char NO_REFUSAL = '-';
    private static final char BY_LOCK = 'l';
    private static final char BY_SIGNATURE = 's';

    private final AuthorBook authorBook;
    private final ClauseBook clauseBook;
    private final SignatureBook signatureBook;
    private final EditLog log;
    private final Passage present;
    /** What the text would be after an edit that may still be refused. */
    private final Passage proposal;
    private final Redo redo;
    private final Line typed;
    private final Line output;
    private boolean strict;
    private int fee;
    private char lastReason;
    private int lastSubject;

    public SignedDocument() {
        authorBook = new AuthorBook();
        clauseBook = new ClauseBook();
        signatureBook = new SignatureBook();
        log = new EditLog();
        present = new Passage();
        proposal = new Passage();
        redo = new Redo();
        typed = new Line(new char[MAX_TYPED]);
        output = new Line(new char[MAX_OUTPUT]);
        strict = false;
        fee = 0;
        lastReason = NO_REFUSAL;
        lastSubject = NONE;
    }

    // ---- authors and edits

    public int addAuthor(int scheme, int rate) throws IllegalArgumentException, IllegalStateException {
        if (scheme < 0 || scheme > MAX_SCHEME || rate < 0 || rate > MAX_CENTS) {
            throw new IllegalArgumentException("scheme or rate out of range");
        }
        if (authorBook.isFull()) {
            throw new IllegalStateException("too many authors");
        }
        return authorBook.enter(scheme, rate);
    }

    public int type(char character) throws IllegalArgumentException, IllegalStateException {
        if (character != ' ' && (character < 'a' || character > 'z')) {
            throw new IllegalArgumentException("neither a letter nor a blank");
        }
        if (typed.isFull()) {
            throw new IllegalStateException("the buffer is full");
        }
        typed.put(character);
        return typed.size;
    }

    public int insert(int author, int position)
            throws IndexOutOfBoundsException, IllegalArgumentException, IllegalStateException,
            UnsupportedOperationException {
        needAuthor(author);
        if (position < 0 || position > present.size) {
            throw new IndexOutOfBoundsException("no such position");
        }
        if (typed.size == 0) {
            throw new IllegalArgumentException("the buffer is empty");
        }
        needRoomForEdit();
        if (present.size + typed.size > MAX_TEXT) {
            throw new IllegalStateException("the text would be too long");
        }
        log.draft(INSERTION, author, position, typed.size, position);
        log.draftLetters(typed);
        performDraft();
        typed.clear();
        return present.size;
    }

    public int delete(int author, int position, int count)
            throws IndexOutOfBoundsException, IllegalStateException, UnsupportedOperationException {
        needAuthor(author);
        needRange(position, count);
        needRoomForEdit();
        log.draft(DELETION, author, position, count, position);
        performDraft();
        return present.size;
    }

    public int move(int author, int position, int count, int goal)
            throws IndexOutOfBoundsException, IllegalStateException, UnsupportedOperationException {
        needAuthor(author);
        needRange(position, count);
        if (goal < 0 || goal > present.size - count) {
            throw new IndexOutOfBoundsException("no such goal");
        }
        needRoomForEdit();
        log.draft(MOVE, author, position, count, goal);
        performDraft();
        return log.size - 1;
    }

    public int edits() {
        return log.size;
    }

    public char editKind(int edit) throws IndexOutOfBoundsException {
        needEdit(edit);
        return log.kinds[edit];
    }

    public int editAuthor(int edit) throws IndexOutOfBoundsException {
        needEdit(edit);
        return log.authors[edit];
    }

    public int editCost(int edit) throws IndexOutOfBoundsException {
        needEdit(edit);
        return log.costs[edit];
    }

    public char refusalReason() throws NoSuchElementException {
        needRefusal();
        return lastReason;
    }

    public int refusalSubject() throws NoSuchElementException {
        needRefusal();
        return lastSubject;
    }

    // ---- text

    public int length() {
        return present.size;
    }

    public char charAt(int position) throws IndexOutOfBoundsException {
        needPosition(position, present);
        return present.letters[position];
    }

    public int authorOf(int position) throws IndexOutOfBoundsException {
        needPosition(position, present);
        return present.authors[position];
    }

    public int clauseOf(int position) throws IndexOutOfBoundsException {
        needPosition(position, present);
        return present.clauses[position];
    }

    public int lengthAgain() {
        redo.run(log, clauseBook);
        return redo.text.size;
    }

    public char charAgain(int position) throws IndexOutOfBoundsException {
        redo.run(log, clauseBook);
        needPosition(position, redo.text);
        return redo.text.letters[position];
    }

    public int writeText() {
        output.clear();
        int open = NONE;
        for (int i = 0; i < present.size; i++) {
            int clause = present.clauses[i];
            if (clause != open) {
                closeBracket(open);
                openBracket(clause);
                open = clause;
            }
            output.put(present.letters[i]);
        }
        closeBracket(open);
        return output.size;
    }

    public int writeClause(int clause) throws IndexOutOfBoundsException {
        needClause(clause);
        output.clear();
        for (int i = 0; i < present.size; i++) {
            if (present.clauses[i] == clause) {
                output.put(present.letters[i]);
            }
        }
        return output.size;
    }

    public char outputAt(int index) throws IndexOutOfBoundsException {
        if (index < 0 || index >= output.size) {
            throw new IndexOutOfBoundsException("no such index");
        }
        return output.signs[index];
    }

    // ---- clauses

    public int addClause(int position, int count) throws IndexOutOfBoundsException, IllegalStateException {
        needRange(position, count);
        if (clauseBook.isFull()) {
            throw new IllegalStateException("too many clauses");
        }
        if (!present.isFree(position, count)) {
            throw new IllegalStateException("a character belongs to a clause");
        }
        int clause = clauseBook.enter(position, count, log.size);
        present.mark(position, count, clause);
        return clause;
    }

    public int clauses() {
        return clauseBook.size;
    }

    public int clauseLength(int clause) throws IndexOutOfBoundsException {
        needClause(clause);
        return present.countOfClause(clause);
    }

    public boolean lock(int clause, boolean isLocked) throws IndexOutOfBoundsException {
        needClause(clause);
        boolean wasLocked = clauseBook.locked[clause];
        clauseBook.locked[clause] = isLocked;
        return wasLocked;
    }

    public int signers(int clause) throws IndexOutOfBoundsException {
        needClause(clause);
        return signatureBook.authorsOver(clause);
    }

    // ---- signatures

    public int sign(int author, int clauses)
            throws IndexOutOfBoundsException, IllegalArgumentException, IllegalStateException {
        needAuthor(author);
        if (clauses == 0 || (clauses >>> clauseBook.size) != 0) {
            throw new IllegalArgumentException("no clause, or one that does not exist");
        }
        if (signatureBook.isFull()) {
            throw new IllegalStateException("too many signatures");
        }
        return signatureBook.enter(author, clauses, log.size);
    }

    public int withdraw(int signature) throws IndexOutOfBoundsException, IllegalStateException {
        needSignature(signature);
        if (signatureBook.states[signature] != VALID) {
            throw new IllegalStateException("the signature is not valid");
        }
        signatureBook.states[signature] = WITHDRAWN;
        return signatureBook.countValid();
    }

    public int signatures() {
        return signatureBook.size;
    }

    public char state(int signature) throws IndexOutOfBoundsException {
        needSignature(signature);
        return signatureBook.states[signature];
    }

    public boolean isUntouched(int signature) throws IndexOutOfBoundsException {
        needSignature(signature);
        redo.run(log, clauseBook);
        return isUntouchedInRedo(signature);
    }

    public int voidedBy(int signature) throws IndexOutOfBoundsException, NoSuchElementException {
        needSignature(signature);
        if (signatureBook.states[signature] != VOID) {
            throw new NoSuchElementException("the signature is not void");
        }
        return signatureBook.voidingEdits[signature];
    }

    public boolean setStrict(boolean isStrict) {
        boolean wasStrict = strict;
        strict = isStrict;
        return wasStrict;
    }

    // ---- bills

    public int setFee(int cents) throws IllegalArgumentException {
        if (cents < 0 || cents > MAX_CENTS) {
            throw new IllegalArgumentException("fee out of range");
        }
        int previous = fee;
        fee = cents;
        return previous;
    }

    public long bill(int author) throws IndexOutOfBoundsException {
        needAuthor(author);
        return authorBook.bills[author];
    }

    public long billAgain(int author) throws IndexOutOfBoundsException {
        needAuthor(author);
        return computeBill(author);
    }

    public float share(int author) throws IndexOutOfBoundsException, ArithmeticException {
        needAuthor(author);
        if (present.size == 0) {
            throw new ArithmeticException("the text is empty");
        }
        return (float) present.countOfAuthor(author) / (float) present.size;
    }

    public double meanCost() throws ArithmeticException {
        if (log.size == 0) {
            throw new ArithmeticException("there are no edits");
        }
        return (double) log.sumOfCosts() / (double) log.size;
    }

    public boolean isConsistent() {
        redo.run(log, clauseBook);
        return redo.text.isSameAs(present) && areStatesRight() && areBillsRight();
    }

    // ---- what the calls have in common

    private void needAuthor(int author) {
        if (author < 0 || author >= authorBook.size) {
            throw new IndexOutOfBoundsException("no such author");
        }
    }

    private void needEdit(int edit) {
        if (edit < 0 || edit >= log.size) {
            throw new IndexOutOfBoundsException("no such edit");
        }
    }

    private void needClause(int clause) {
        if (clause < 0 || clause >= clauseBook.size) {
            throw new IndexOutOfBoundsException("no such clause");
        }
    }

    private void needSignature(int signature) {
        if (signature < 0 || signature >= signatureBook.size) {
            throw new IndexOutOfBoundsException("no such signature");
        }
    }

    private void needPosition(int position, Passage text) {
        if (position < 0 || position >= text.size) {
            throw new IndexOutOfBoundsException("no such position");
        }
    }

    /** The count is compared with a difference, because a sum could wrap around. */
    private void needRange(int position, int count) {
        if (position < 0 || position > present.size || count < 1 || count > present.size - position) {
            throw new IndexOutOfBoundsException("no such characters");
        }
    }

    private void needRoomForEdit() {
        if (log.isFull()) {
            throw new IllegalStateException("too many edits");
        }
    }

    private void needRefusal() {
        if (lastReason == NO_REFUSAL) {
            throw new NoSuchElementException("no edit was refused");
        }
    }

    /** The drafted edit becomes an edit here, unless it is refused. */
    private void performDraft() {
        int edit = log.size;
        log.perform(edit, present, proposal);
        int changed = proposal.clausesUnlike(present, clauseBook.size);
        if (noteRefusal(changed)) {
            throw new UnsupportedOperationException("the edit is refused");
        }
        present.copyFrom(proposal);
        int fees = fee * signatureBook.makeVoid(changed, edit);
        int author = log.authors[edit];
        int cost = authorBook.priceOf(author, log.kinds[edit], log.counts[edit]) + fees;
        authorBook.bills[author] += cost;
        log.keepDraft(cost, fees);
    }

    /** Returns whether an edit that changes these clauses is refused, and if so records why. */
    private boolean noteRefusal(int changed) {
        int clause = clauseBook.lowestLocked(changed);
        if (clause != NONE) {
            lastReason = BY_LOCK;
            lastSubject = clause;
            return true;
        }
        int signature = strict ? signatureBook.lowestValid(changed) : NONE;
        if (signature != NONE) {
            lastReason = BY_SIGNATURE;
            lastSubject = signature;
            return true;
        }
        return false;
    }

    private void openBracket(int clause) {
        if (clause != NONE) {
            output.put('[');
            output.put((char) ('0' + clause));
            output.put(':');
        }
    }

    private void closeBracket(int clause) {
        if (clause != NONE) {
            output.put(']');
        }
    }

    private boolean isUntouchedInRedo(int signature) {
        int changed = redo.changedSince(signatureBook.editsBefore[signature], log.size);
        return (changed & signatureBook.clauseSets[signature]) == 0;
    }

    private boolean areStatesRight() {
        for (int i = 0; i < signatureBook.size; i++) {
            char state = signatureBook.states[i];
            boolean untouched = isUntouchedInRedo(i);
            if (state == VALID && !untouched || state == VOID && untouched) {
                return false;
            }
        }
        return true;
    }

    private boolean areBillsRight() {
        for (int i = 0; i < authorBook.size; i++) {
            if (authorBook.bills[i] != computeBill(i)) {
                return false;
            }
        }
        return true;
    }

    private long computeBill(int author) {
        long sum = 0;
        for (int i = 0; i < log.size; i++) {
            if (log.authors[i] == author) {
                sum += authorBook.priceOf(author, log.kinds[i], log.counts[i]) + log.fees[i];
            }
        }
        return sum;
    }

    /** Characters in a row of fixed room. */
    private static final class Line {
        final char[] signs;
        int size;

        Line(char[] room) {
            signs = room;
            size = 0;
        }

        boolean isFull() {
            return size >= signs.length;
        }

        void put(char sign) {
            if (!isFull()) {
                signs[size] = sign;
                size++;
            }
        }

        void clear() {
            size = 0;
        }
    }

    /** A text whose characters know their authors and clauses. */
    private static final class Passage {
        final char[] letters;
        final int[] authors;
        final int[] clauses;
        int size;

        Passage() {
            letters = new char[MAX_TEXT];
            authors = new int[MAX_TEXT];
            clauses = new int[MAX_TEXT];
            size = 0;
        }

        void clear() {
            size = 0;
        }

        void copyFrom(Passage other) {
            clear();
            append(other, 0, other.size);
        }

        /** Appends what stands in the other text from start up to, but without, end. */
        void append(Passage other, int start, int end) {
            for (int i = start; i < end && i < other.size; i++) {
                appendOne(other.letters[i], other.authors[i], other.clauses[i]);
            }
        }

        void appendOne(char letter, int author, int clause) {
            if (size < MAX_TEXT) {
                letters[size] = letter;
                authors[size] = author;
                clauses[size] = clause;
                size++;
            }
        }

        /** The clause that encloses the characters from start up to, but without, end. */
        int clauseAround(int start, int end) {
            if (start <= 0 || end >= size || clauses[start - 1] != clauses[end]) {
                return NONE;
            }
            return clauses[end];
        }

        boolean isFree(int position, int count) {
            for (int i = position; i < position + count && i < size; i++) {
                if (clauses[i] != NONE) {
                    return false;
                }
            }
            return true;
        }

        void mark(int position, int count, int clause) {
            for (int i = position; i < position + count && i < size; i++) {
                clauses[i] = clause;
            }
        }

        /** Gives moved characters their new clause; only whole clauses take theirs along. */
        void settle(int position, int count) {
            int end = position + count;
            int around = clauseAround(position, end);
            for (int i = position; i < end && i < size; i++) {
                if (clauses[i] == NONE || standsOutside(clauses[i], position, end)) {
                    clauses[i] = around;
                }
            }
        }

        private boolean standsOutside(int clause, int start, int end) {
            for (int i = 0; i < size; i++) {
                if (clauses[i] == clause && (i < start || i >= end)) {
                    return true;
                }
            }
            return false;
        }

        int countOfClause(int clause) {
            int count = 0;
            for (int i = 0; i < size; i++) {
                if (clauses[i] == clause) {
                    count++;
                }
            }
            return count;
        }

        int countOfAuthor(int author) {
            int count = 0;
            for (int i = 0; i < size; i++) {
                if (authors[i] == author) {
                    count++;
                }
            }
            return count;
        }

        /** The set of clauses whose words are not the same in both texts. */
        int clausesUnlike(Passage other, int clauseCount) {
            int set = 0;
            for (int clause = 0; clause < clauseCount; clause++) {
                if (!hasWordsOf(other, clause)) {
                    set |= 1 << clause;
                }
            }
            return set;
        }

        private boolean hasWordsOf(Passage other, int clause) {
            int own = next(clause, 0);
            for (int i = 0; i < other.size; i++) {
                if (other.clauses[i] == clause) {
                    if (own >= size || letters[own] != other.letters[i]) {
                        return false;
                    }
                    own = next(clause, own + 1);
                }
            }
            return own >= size;
        }

        /** The first position of the clause from start on, or the size if there is none. */
        private int next(int clause, int start) {
            for (int i = start; i < size; i++) {
                if (clauses[i] == clause) {
                    return i;
                }
            }
            return size;
        }

        boolean isSameAs(Passage other) {
            if (size != other.size) {
                return false;
            }
            for (int i = 0; i < size; i++) {
                if (letters[i] != other.letters[i] || authors[i] != other.authors[i]
                        || clauses[i] != other.clauses[i]) {
                    return false;
                }
            }
            return true;
        }
    }

    /** The edits, and behind the last one a draft that may still be refused. */
    private static final class EditLog {
        final char[] kinds;
        final int[] authors;
        final int[] positions;
        final int[] counts;
        final int[] goals;
        final int[] costs;
        final int[] fees;
        /** The inserted characters of all edits; those of an edit begin at its start. */
        final char[] letters;
        final int[] starts;
        int size;
        int lettersUsed;

        EditLog() {
            kinds = new char[MAX_EDITS];
            authors = new int[MAX_EDITS];
            positions = new int[MAX_EDITS];
            counts = new int[MAX_EDITS];
            goals = new int[MAX_EDITS];
            costs = new int[MAX_EDITS];
            fees = new int[MAX_EDITS];
            letters = new char[MAX_EDITS * MAX_TYPED];
            starts = new int[MAX_EDITS];
            size = 0;
            lettersUsed = 0;
        }

        boolean isFull() {
            return size >= MAX_EDITS;
        }

        void draft(char kind, int author, int position, int count, int goal) {
            if (!isFull()) {
                kinds[size] = kind;
                authors[size] = author;
                positions[size] = position;
                counts[size] = count;
                goals[size] = goal;
                starts[size] = lettersUsed;
            }
        }

        void draftLetters(Line line) {
            for (int i = 0; i < line.size && lettersUsed + i < letters.length; i++) {
                letters[lettersUsed + i] = line.signs[i];
            }
        }

        void keepDraft(int cost, int feesOfEdit) {
            if (!isFull()) {
                costs[size] = cost;
                fees[size] = feesOfEdit;
                if (kinds[size] == INSERTION) {
                    lettersUsed += counts[size];
                }
                size++;
            }
        }

        long sumOfCosts() {
            long sum = 0;
            for (int i = 0; i < size; i++) {
                sum += costs[i];
            }
            return sum;
        }

        /** Makes the text after an edit, or after the draft, from the one before. */
        void perform(int edit, Passage before, Passage after) {
            after.clear();
            if (kinds[edit] == INSERTION) {
                performInsertion(edit, before, after);
            } else if (kinds[edit] == DELETION) {
                after.append(before, 0, positions[edit]);
                after.append(before, positions[edit] + counts[edit], before.size);
            } else {
                performMove(positions[edit], counts[edit], goals[edit], before, after);
            }
        }

        private void performInsertion(int edit, Passage before, Passage after) {
            int position = positions[edit];
            int clause = before.clauseAround(position, position);
            int start = starts[edit];
            after.append(before, 0, position);
            for (int i = start; i < start + counts[edit] && i < letters.length; i++) {
                after.appendOne(letters[i], authors[edit], clause);
            }
            after.append(before, position, before.size);
        }

        private static void performMove(int position, int count, int goal, Passage before, Passage after) {
            int end = position + count;
            if (goal <= position) {
                after.append(before, 0, goal);
                after.append(before, position, end);
                after.append(before, goal, position);
                after.append(before, end, before.size);
            } else {
                after.append(before, 0, position);
                after.append(before, end, goal + count);
                after.append(before, position, end);
                after.append(before, goal + count, before.size);
            }
            after.settle(goal, count);
        }
    }

    /** All edits done again, from the empty text on. */
    private static final class Redo {
        final Passage text;
        private final Passage before;
        /** For each edit, the set of clauses whose words it changed. */
        private final int[] changed;

        Redo() {
            text = new Passage();
            before = new Passage();
            changed = new int[MAX_EDITS];
        }

        void run(EditLog log, ClauseBook book) {
            text.clear();
            for (int edit = 0; edit < log.size; edit++) {
                book.markAgain(edit, text);
                before.copyFrom(text);
                log.perform(edit, before, text);
                changed[edit] = text.clausesUnlike(before, book.size);
            }
            book.markAgain(log.size, text);
        }

        int changedSince(int firstEdit, int edits) {
            int set = 0;
            for (int i = firstEdit; i < edits; i++) {
                set |= changed[i];
            }
            return set;
        }
    }

    /** The authors with their bills. */
    private static final class AuthorBook {
        final int[] schemes;
        final int[] rates;
        final long[] bills;
        int size;

        AuthorBook() {
            schemes = new int[MAX_AUTHORS];
            rates = new int[MAX_AUTHORS];
            bills = new long[MAX_AUTHORS];
            size = 0;
        }

        boolean isFull() {
            return size >= MAX_AUTHORS;
        }

        int enter(int scheme, int rate) {
            if (!isFull()) {
                schemes[size] = scheme;
                rates[size] = rate;
                size++;
            }
            return size - 1;
        }

        /** The count is the sum and the greatest of an edit's three numbers, as the other two are 0. */
        int priceOf(int author, char kind, int count) {
            int rate = rates[author];
            int scheme = schemes[author];
            if (scheme == SCHEME_BY_CHARACTER) {
                return count * rate;
            }
            if (scheme == SCHEME_FLAT) {
                return rate;
            }
            if (scheme == SCHEME_HALF_DELETIONS) {
                return halfDeletionsPrice(kind, count, rate);
            }
            return Math.max(count, SCHEME_3_LEAST_COUNT) * rate;
        }

        private static int halfDeletionsPrice(char kind, int count, int rate) {
            if (kind == INSERTION) {
                return count * rate;
            }
            return kind == DELETION ? count * rate / 2 : 0;
        }
    }

    /** The clauses as they were added, so that they can be added again. */
    private static final class ClauseBook {
        final int[] positions;
        final int[] counts;
        final int[] editsBefore;
        final boolean[] locked;
        int size;

        ClauseBook() {
            positions = new int[MAX_CLAUSES];
            counts = new int[MAX_CLAUSES];
            editsBefore = new int[MAX_CLAUSES];
            locked = new boolean[MAX_CLAUSES];
            size = 0;
        }

        boolean isFull() {
            return size >= MAX_CLAUSES;
        }

        int enter(int position, int count, int edits) {
            if (!isFull()) {
                positions[size] = position;
                counts[size] = count;
                editsBefore[size] = edits;
                size++;
            }
            return size - 1;
        }

        /** Adds to the text the clauses that were added when there were so many edits. */
        void markAgain(int edits, Passage text) {
            for (int i = 0; i < size; i++) {
                if (editsBefore[i] == edits) {
                    text.mark(positions[i], counts[i], i);
                }
            }
        }

        int lowestLocked(int set) {
            for (int i = 0; i < size; i++) {
                if (locked[i] && (set & 1 << i) != 0) {
                    return i;
                }
            }
            return NONE;
        }
    }

    /** The signatures, void and withdrawn ones included. */
    private static final class SignatureBook {
        final int[] authors;
        final int[] clauseSets;
        final int[] editsBefore;
        final int[] voidingEdits;
        final char[] states;
        int size;

        SignatureBook() {
            authors = new int[MAX_SIGNATURES];
            clauseSets = new int[MAX_SIGNATURES];
            editsBefore = new int[MAX_SIGNATURES];
            voidingEdits = new int[MAX_SIGNATURES];
            states = new char[MAX_SIGNATURES];
            size = 0;
        }

        boolean isFull() {
            return size >= MAX_SIGNATURES;
        }

        int enter(int author, int clauseSet, int edits) {
            if (!isFull()) {
                authors[size] = author;
                clauseSets[size] = clauseSet;
                editsBefore[size] = edits;
                voidingEdits[size] = NONE;
                states[size] = VALID;
                size++;
            }
            return size - 1;
        }

        private boolean isValidOver(int signature, int set) {
            return states[signature] == VALID && (clauseSets[signature] & set) != 0;
        }

        int lowestValid(int set) {
            for (int i = 0; i < size; i++) {
                if (isValidOver(i, set)) {
                    return i;
                }
            }
            return NONE;
        }

        /** Returns how many signatures became void. */
        int makeVoid(int changed, int edit) {
            int count = 0;
            for (int i = 0; i < size; i++) {
                if (isValidOver(i, changed)) {
                    states[i] = VOID;
                    voidingEdits[i] = edit;
                    count++;
                }
            }
            return count;
        }

        int countValid() {
            int count = 0;
            for (int i = 0; i < size; i++) {
                if (states[i] == VALID) {
                    count++;
                }
            }
            return count;
        }

        int authorsOver(int clause) {
            int set = 0;
            for (int i = 0; i < size; i++) {
                if (isValidOver(i, 1 << clause)) {
                    set |= 1 << authors[i];
                }
            }
            return set;
        }
    }
}
