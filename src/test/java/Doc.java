import java.util.ArrayList;
import java.util.List;
import java.util.function.Consumer;

/** A document whose calls are counted, and told again to a new one wherever a look at the whole needs it. */
final class Doc {
    private final SignedDocument d = new SignedDocument();
    private final List<Consumer<Doc>> past = new ArrayList<>();
    private int calls = 0;

    /** The document promises nothing for later calls than the 512th. */
    private SignedDocument count() {
        calls++;
        if (calls == 513) Checks.fault("the test makes too many calls");
        return d;
    }

    /** Only what was answered is told again. */
    private <T> T keep(T answer, Consumer<Doc> call) {
        past.add(call);
        return answer;
    }

    Doc again() {
        Doc other = new Doc();
        for (Consumer<Doc> each : past) each.accept(other);
        return other;
    }

    int calls() {
        return calls;
    }

    /** Makes a call that may throw, which is told again in either case; answers what it throws, or null. */
    Class<?> attempt(Consumer<Doc> call) {
        int told = past.size();
        Class<?> thrown = Checks.thrownBy(this, call);
        past.subList(told, past.size()).clear();
        past.add(x -> x.attempt(call));
        return thrown;
    }

    int addAuthor(int scheme, int rate) {
        return keep(count().addAuthor(scheme, rate), x -> x.addAuthor(scheme, rate));
    }

    int type(char character) {
        return keep(count().type(character), x -> x.type(character));
    }

    int insert(int author, int position) {
        return keep(count().insert(author, position), x -> x.insert(author, position));
    }

    int delete(int author, int position, int count) {
        return keep(count().delete(author, position, count), x -> x.delete(author, position, count));
    }

    int move(int author, int position, int count, int goal) {
        return keep(count().move(author, position, count, goal), x -> x.move(author, position, count, goal));
    }

    int edits() { return count().edits(); }

    char editKind(int edit) { return count().editKind(edit); }

    int editAuthor(int edit) { return count().editAuthor(edit); }

    int editCost(int edit) { return count().editCost(edit); }

    char refusalReason() { return count().refusalReason(); }

    int refusalSubject() { return count().refusalSubject(); }

    int length() { return count().length(); }

    char charAt(int position) { return count().charAt(position); }

    int authorOf(int position) { return count().authorOf(position); }

    int clauseOf(int position) { return count().clauseOf(position); }

    int lengthAgain() { return count().lengthAgain(); }

    char charAgain(int position) { return count().charAgain(position); }

    int writeText() { return keep(count().writeText(), x -> x.writeText()); }

    int writeClause(int clause) { return keep(count().writeClause(clause), x -> x.writeClause(clause)); }

    char outputAt(int index) { return count().outputAt(index); }

    int addClause(int position, int count) {
        return keep(count().addClause(position, count), x -> x.addClause(position, count));
    }

    int clauses() { return count().clauses(); }

    int clauseLength(int clause) { return count().clauseLength(clause); }

    boolean lock(int clause, boolean isLocked) {
        return keep(count().lock(clause, isLocked), x -> x.lock(clause, isLocked));
    }

    int signers(int clause) { return count().signers(clause); }

    int sign(int author, int clauses) { return keep(count().sign(author, clauses), x -> x.sign(author, clauses)); }

    int withdraw(int signature) { return keep(count().withdraw(signature), x -> x.withdraw(signature)); }

    int signatures() { return count().signatures(); }

    char state(int signature) { return count().state(signature); }

    boolean isUntouched(int signature) { return count().isUntouched(signature); }

    int voidedBy(int signature) { return count().voidedBy(signature); }

    boolean setStrict(boolean isStrict) { return keep(count().setStrict(isStrict), x -> x.setStrict(isStrict)); }

    int setFee(int cents) { return keep(count().setFee(cents), x -> x.setFee(cents)); }

    long bill(int author) { return count().bill(author); }

    long billAgain(int author) { return count().billAgain(author); }

    float share(int author) { return count().share(author); }

    double meanCost() { return count().meanCost(); }

    boolean isConsistent() { return count().isConsistent(); }
}
