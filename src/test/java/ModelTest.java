import java.util.ArrayList;
import java.util.Arrays;
import java.util.HashMap;
import java.util.List;
import java.util.Map;
import java.util.NoSuchElementException;
import java.util.Random;
import java.util.TreeSet;

/** Random runs, always the same ones, each call held against a plain model of the document. */
public final class ModelTest {
    private static final int RUNS = 3000;
    private static final int CALLS = 512;

    /** A character with an identity; moving keeps it. */
    private static final class Sign {
        final char letter;
        final int author;
        Integer clause = null;

        Sign(char letter, int author) {
            this.letter = letter;
            this.author = author;
        }
    }

    private static final class Signature {
        int author;
        TreeSet<Integer> clauses = new TreeSet<>();
        char state = 'v';
        int voidedBy = -1;
        Map<Integer, String> wordsAtFirst = new HashMap<>();
        boolean isUntouched = true;
    }

    private static final class Edit {
        char kind;
        int author;
        int cost;
    }

    /** The document as its text tells it, with lists and without limits of its own. */
    private static final class Model {
        final List<int[]> authors = new ArrayList<>();
        final List<Boolean> locks = new ArrayList<>();
        final List<Signature> signatures = new ArrayList<>();
        final List<Edit> edits = new ArrayList<>();
        List<Sign> text = new ArrayList<>();
        String buffer = "";
        String output = "";
        boolean strict = false;
        int fee = 0;
        String reason = null;
        int subject = -1;

        private static void check(boolean fails, RuntimeException e) {
            if (fails) throw e;
        }

        private static RuntimeException index() {
            return new IndexOutOfBoundsException();
        }

        private static RuntimeException argument() {
            return new IllegalArgumentException();
        }

        private static RuntimeException state() {
            return new IllegalStateException();
        }

        private void checkAuthor(int author) {
            check(author < 0 || author >= authors.size(), index());
        }

        private void checkRange(long position, long count) {
            check(position < 0 || count < 1 || position + count > text.size(), index());
        }

        String wordsOf(int clause) {
            StringBuilder words = new StringBuilder();
            for (Sign each : text) {
                if (each.clause != null && each.clause == clause) words.append(each.letter);
            }
            return words.toString();
        }

        private List<String> allWords() {
            List<String> words = new ArrayList<>();
            for (int i = 0; i < locks.size(); i++) words.add(wordsOf(i));
            return words;
        }

        private Integer clauseAt(List<Sign> some, int position) {
            if (position == 0 || position == some.size()) return null;
            Integer before = some.get(position - 1).clause;
            Integer behind = some.get(position).clause;
            return before != null && before.equals(behind) ? before : null;
        }

        private int amount(int author, int inserted, int deleted, int moved) {
            int rate = authors.get(author)[1];
            switch (authors.get(author)[0]) {
                case 0: return (inserted + deleted + moved) * rate;
                case 1: return rate;
                case 2: return inserted * rate + (int) Math.floor(deleted * rate / 2.0);
                default: return Math.max(2, Math.max(inserted, Math.max(deleted, moved))) * rate;
            }
        }

        /** The text is changed already; the old one and the old clauses are put back on a refusal. */
        private void finish(char kind, int author, int amount, List<Sign> oldText, List<Integer> oldClauses,
                List<String> oldWords) {
            List<String> words = allWords();
            TreeSet<Integer> changed = new TreeSet<>();
            for (int i = 0; i < words.size(); i++) {
                if (!words.get(i).equals(oldWords.get(i))) changed.add(i);
            }
            List<Signature> harmed = new ArrayList<>();
            for (Signature each : signatures) {
                TreeSet<Integer> common = new TreeSet<>(each.clauses);
                common.retainAll(changed);
                if (each.state == 'v' && !common.isEmpty()) harmed.add(each);
            }
            String newReason = null;
            int newSubject = -1;
            for (int each : changed.descendingSet()) {
                if (locks.get(each)) {
                    newReason = "l";
                    newSubject = each;
                }
            }
            if (newReason == null && strict && !harmed.isEmpty()) {
                newReason = "s";
                newSubject = signatures.indexOf(harmed.get(0));
            }
            if (newReason != null) {
                reason = newReason;
                subject = newSubject;
                text = oldText;
                for (int i = 0; i < text.size(); i++) text.get(i).clause = oldClauses.get(i);
                throw new UnsupportedOperationException();
            }
            Edit edit = new Edit();
            edit.kind = kind;
            edit.author = author;
            edit.cost = amount + fee * harmed.size();
            for (Signature each : harmed) {
                each.state = 'x';
                each.voidedBy = edits.size();
            }
            edits.add(edit);
            for (Signature each : signatures) {
                for (int clause : each.clauses) {
                    if (!each.wordsAtFirst.get(clause).equals(words.get(clause))) each.isUntouched = false;
                }
            }
        }

        private List<Integer> clausesNow() {
            List<Integer> clauses = new ArrayList<>();
            for (Sign each : text) clauses.add(each.clause);
            return clauses;
        }

        int addAuthor(int scheme, int rate) {
            check(scheme < 0 || scheme > 3 || rate < 0 || rate > 999, argument());
            check(authors.size() == 5, state());
            authors.add(new int[] {scheme, rate});
            return authors.size() - 1;
        }

        int type(char character) {
            check("abcdefghijklmnopqrstuvwxyz ".indexOf(character) < 0, argument());
            check(buffer.length() == 20, state());
            buffer += character;
            return buffer.length();
        }

        int insert(int author, int position) {
            checkAuthor(author);
            check(position < 0 || position > text.size(), index());
            check(buffer.isEmpty(), argument());
            check(edits.size() == 40 || text.size() + buffer.length() > 60, state());
            List<Sign> oldText = text;
            List<Integer> oldClauses = clausesNow();
            List<String> oldWords = allWords();
            text = new ArrayList<>(oldText);
            Integer clause = clauseAt(text, position);
            for (int i = 0; i < buffer.length(); i++) {
                Sign sign = new Sign(buffer.charAt(i), author);
                sign.clause = clause;
                text.add(position + i, sign);
            }
            finish('i', author, amount(author, buffer.length(), 0, 0), oldText, oldClauses, oldWords);
            buffer = "";
            return text.size();
        }

        int delete(int author, int position, int count) {
            checkAuthor(author);
            checkRange(position, count);
            check(edits.size() == 40, state());
            List<Sign> oldText = text;
            List<Integer> oldClauses = clausesNow();
            List<String> oldWords = allWords();
            text = new ArrayList<>(oldText);
            text.subList(position, position + count).clear();
            finish('d', author, amount(author, 0, count, 0), oldText, oldClauses, oldWords);
            return text.size();
        }

        int move(int author, int position, int count, int goal) {
            checkAuthor(author);
            checkRange(position, count);
            check(goal < 0 || goal > text.size() - count, index());
            check(edits.size() == 40, state());
            List<Sign> oldText = text;
            List<Integer> oldClauses = clausesNow();
            List<String> oldWords = allWords();
            text = new ArrayList<>(oldText);
            List<Sign> moved = new ArrayList<>(text.subList(position, position + count));
            text.subList(position, position + count).clear();
            TreeSet<Integer> left = new TreeSet<>();
            for (Sign each : text) {
                if (each.clause != null) left.add(each.clause);
            }
            Integer clause = clauseAt(text, goal);
            for (Sign each : moved) {
                if (each.clause == null || left.contains(each.clause)) each.clause = clause;
            }
            text.addAll(goal, moved);
            finish('m', author, amount(author, 0, 0, count), oldText, oldClauses, oldWords);
            return edits.size() - 1;
        }

        private Edit edit(int edit) {
            check(edit < 0 || edit >= edits.size(), index());
            return edits.get(edit);
        }

        private Sign sign(int position) {
            check(position < 0 || position >= text.size(), index());
            return text.get(position);
        }

        private void checkClause(int clause) {
            check(clause < 0 || clause >= locks.size(), index());
        }

        private Signature signature(int signature) {
            check(signature < 0 || signature >= signatures.size(), index());
            return signatures.get(signature);
        }

        private void checkRefusal() {
            check(reason == null, new NoSuchElementException());
        }

        int writeText() {
            output = "";
            Integer open = null;
            for (Sign each : text) {
                boolean same = open == null ? each.clause == null : open.equals(each.clause);
                if (!same && open != null) output += "]";
                if (!same && each.clause != null) output += "[" + each.clause + ":";
                output += each.letter;
                open = each.clause;
            }
            if (open != null) output += "]";
            return output.length();
        }

        int writeClause(int clause) {
            checkClause(clause);
            output = wordsOf(clause);
            return output.length();
        }

        char outputAt(int index) {
            check(index < 0 || index >= output.length(), index());
            return output.charAt(index);
        }

        int addClause(int position, int count) {
            checkRange(position, count);
            check(locks.size() == 6, state());
            for (Sign each : text.subList(position, position + count)) check(each.clause != null, state());
            for (Sign each : text.subList(position, position + count)) each.clause = locks.size();
            locks.add(false);
            return locks.size() - 1;
        }

        boolean lock(int clause, boolean isLocked) {
            checkClause(clause);
            return locks.set(clause, isLocked);
        }

        int signers(int clause) {
            checkClause(clause);
            int set = 0;
            for (Signature each : signatures) {
                if (each.state == 'v' && each.clauses.contains(clause)) set |= 1 << each.author;
            }
            return set;
        }

        int sign(int author, int clauses) {
            checkAuthor(author);
            Signature signature = new Signature();
            signature.author = author;
            for (int i = 0; i < 32; i++) {
                if ((clauses >> i & 1) != 0) signature.clauses.add(i);
            }
            check(signature.clauses.isEmpty() || signature.clauses.last() >= locks.size(), argument());
            check(signatures.size() == 12, state());
            for (int each : signature.clauses) signature.wordsAtFirst.put(each, wordsOf(each));
            signatures.add(signature);
            return signatures.size() - 1;
        }

        int withdraw(int number) {
            Signature signature = signature(number);
            check(signature.state != 'v', state());
            signature.state = 'w';
            int valid = 0;
            for (Signature each : signatures) {
                if (each.state == 'v') valid++;
            }
            return valid;
        }

        int voidedBy(int number) {
            Signature signature = signature(number);
            check(signature.state != 'x', new NoSuchElementException());
            return signature.voidedBy;
        }

        boolean setStrict(boolean isStrict) {
            boolean was = strict;
            strict = isStrict;
            return was;
        }

        int setFee(int cents) {
            check(cents < 0 || cents > 999, argument());
            int was = fee;
            fee = cents;
            return was;
        }

        long bill(int author) {
            checkAuthor(author);
            long sum = 0;
            for (Edit each : edits) {
                if (each.author == author) sum += each.cost;
            }
            return sum;
        }

        float share(int author) {
            checkAuthor(author);
            check(text.isEmpty(), new ArithmeticException());
            int count = 0;
            for (Sign each : text) {
                if (each.author == author) count++;
            }
            return (float) count / (float) text.size();
        }

        double meanCost() {
            check(edits.isEmpty(), new ArithmeticException());
            long sum = 0;
            for (Edit each : edits) sum += each.cost;
            return (double) sum / (double) edits.size();
        }

        private static int orNone(Integer clause) {
            return clause == null ? -1 : clause;
        }

        Object answer(String name, int[] a) {
            switch (name) {
                case "addAuthor": return addAuthor(a[0], a[1]);
                case "type": return type((char) a[0]);
                case "insert": return insert(a[0], a[1]);
                case "delete": return delete(a[0], a[1], a[2]);
                case "move": return move(a[0], a[1], a[2], a[3]);
                case "edits": return edits.size();
                case "editKind": return edit(a[0]).kind;
                case "editAuthor": return edit(a[0]).author;
                case "editCost": return edit(a[0]).cost;
                case "refusalReason": checkRefusal(); return reason.charAt(0);
                case "refusalSubject": checkRefusal(); return subject;
                case "length": case "lengthAgain": return text.size();
                case "charAt": case "charAgain": return sign(a[0]).letter;
                case "authorOf": return sign(a[0]).author;
                case "clauseOf": return orNone(sign(a[0]).clause);
                case "writeText": return writeText();
                case "writeClause": return writeClause(a[0]);
                case "outputAt": return outputAt(a[0]);
                case "addClause": return addClause(a[0], a[1]);
                case "clauses": return locks.size();
                case "clauseLength": checkClause(a[0]); return wordsOf(a[0]).length();
                case "lock": return lock(a[0], a[1] > 0);
                case "signers": return signers(a[0]);
                case "sign": return sign(a[0], a[1]);
                case "withdraw": return withdraw(a[0]);
                case "signatures": return signatures.size();
                case "state": return signature(a[0]).state;
                case "isUntouched": return signature(a[0]).isUntouched;
                case "voidedBy": return voidedBy(a[0]);
                case "setStrict": return setStrict(a[0] > 0);
                case "setFee": return setFee(a[0]);
                case "bill": case "billAgain": return bill(a[0]);
                case "share": return share(a[0]);
                case "meanCost": return meanCost();
                case "isConsistent": return true;
                default: throw new AssertionError(name);
            }
        }
    }

    private static Object answerOf(SignedDocument d, String name, int[] a) {
        switch (name) {
            case "addAuthor": return d.addAuthor(a[0], a[1]);
            case "type": return d.type((char) a[0]);
            case "insert": return d.insert(a[0], a[1]);
            case "delete": return d.delete(a[0], a[1], a[2]);
            case "move": return d.move(a[0], a[1], a[2], a[3]);
            case "edits": return d.edits();
            case "editKind": return d.editKind(a[0]);
            case "editAuthor": return d.editAuthor(a[0]);
            case "editCost": return d.editCost(a[0]);
            case "refusalReason": return d.refusalReason();
            case "refusalSubject": return d.refusalSubject();
            case "length": return d.length();
            case "lengthAgain": return d.lengthAgain();
            case "charAt": return d.charAt(a[0]);
            case "charAgain": return d.charAgain(a[0]);
            case "authorOf": return d.authorOf(a[0]);
            case "clauseOf": return d.clauseOf(a[0]);
            case "writeText": return d.writeText();
            case "writeClause": return d.writeClause(a[0]);
            case "outputAt": return d.outputAt(a[0]);
            case "addClause": return d.addClause(a[0], a[1]);
            case "clauses": return d.clauses();
            case "clauseLength": return d.clauseLength(a[0]);
            case "lock": return d.lock(a[0], a[1] > 0);
            case "signers": return d.signers(a[0]);
            case "sign": return d.sign(a[0], a[1]);
            case "withdraw": return d.withdraw(a[0]);
            case "signatures": return d.signatures();
            case "state": return d.state(a[0]);
            case "isUntouched": return d.isUntouched(a[0]);
            case "voidedBy": return d.voidedBy(a[0]);
            case "setStrict": return d.setStrict(a[0] > 0);
            case "setFee": return d.setFee(a[0]);
            case "bill": return d.bill(a[0]);
            case "billAgain": return d.billAgain(a[0]);
            case "share": return d.share(a[0]);
            case "meanCost": return d.meanCost();
            case "isConsistent": return d.isConsistent();
            default: throw new AssertionError(name);
        }
    }

    /** Each call with its weight. */
    private static final String[] CALLS_BY_WEIGHT = (
        "addAuthor 1 type 14 insert 10 delete 4 move 14 edits 1 editKind 1 editAuthor 1 editCost 3"
        + " refusalReason 2 refusalSubject 2 length 1 lengthAgain 1 charAt 2 charAgain 3 authorOf 2 clauseOf 4"
        + " writeText 4 writeClause 2 outputAt 5 addClause 4 clauses 1 clauseLength 2 lock 3 signers 2 sign 5"
        + " withdraw 1 signatures 1 state 2 isUntouched 2 voidedBy 2 setStrict 2 setFee 2 bill 2 billAgain 2"
        + " share 2 meanCost 2 isConsistent 2").split(" ");

    private final Random random;
    private final Map<String, Integer> outcomes;

    private ModelTest(long seed, Map<String, Integer> outcomes) {
        random = new Random(seed);
        this.outcomes = outcomes;
    }

    private String anyName() {
        int total = 0;
        for (int i = 1; i < CALLS_BY_WEIGHT.length; i += 2) total += Integer.parseInt(CALLS_BY_WEIGHT[i]);
        int at = random.nextInt(total);
        for (int i = 0; i < CALLS_BY_WEIGHT.length; i += 2) {
            at -= Integer.parseInt(CALLS_BY_WEIGHT[i + 1]);
            if (at < 0) return CALLS_BY_WEIGHT[i];
        }
        throw new AssertionError();
    }

    /** Mostly 0 to below the limit, sometimes at it or beside it, seldom far off. */
    private int below(int limit) {
        int kind = random.nextInt(40);
        if (kind == 0) return limit;
        if (kind == 1) return -1;
        if (kind == 2) return limit + 1 + random.nextInt(3);
        if (kind == 3) {
            int[] far = {Integer.MIN_VALUE, Integer.MAX_VALUE, Integer.MAX_VALUE - 1, -60, 1000};
            return far[random.nextInt(far.length)];
        }
        return limit > 0 ? random.nextInt(limit) : 0;
    }

    private int count(int most) {
        return random.nextInt(3) == 0 ? 1 + below(most) : 1 + below(Math.min(most, 5));
    }

    /** A range that often holds exactly the characters of a clause. */
    private int[] range(Model m) {
        int length = m.text.size();
        if (!m.locks.isEmpty() && random.nextInt(3) == 0) {
            int clause = random.nextInt(m.locks.size());
            int first = -1;
            int last = -1;
            for (int i = 0; i < length; i++) {
                Integer own = m.text.get(i).clause;
                if (own != null && own == clause) {
                    first = first < 0 ? i : first;
                    last = i;
                }
            }
            if (first >= 0) return new int[] {first, last - first + 1};
        }
        int position = below(length);
        return new int[] {position, count(Math.max(1, length - Math.max(0, Math.min(position, length))))};
    }

    private int[] arguments(Model m, String name) {
        int length = m.text.size();
        int[] range = range(m);
        switch (name) {
            case "addAuthor": return new int[] {below(4), random.nextInt(2) == 0 ? below(1000) : below(10)};
            case "type":
                return new int[] {random.nextInt(30) == 0 ? random.nextInt(300) : "aaab ".charAt(random.nextInt(5))};
            case "insert": return new int[] {below(m.authors.size()), below(length + 1)};
            case "delete": return new int[] {below(m.authors.size()), range[0], range[1]};
            case "move":
                int goal = below(Math.max(0, length - range[1]) + 1);
                return new int[] {below(m.authors.size()), range[0], range[1], goal};
            case "editKind": case "editAuthor": case "editCost": return new int[] {below(m.edits.size())};
            case "charAt": case "charAgain": case "authorOf": case "clauseOf": return new int[] {below(length)};
            case "outputAt": return new int[] {below(m.output.length())};
            case "addClause": return range;
            case "writeClause": case "clauseLength": case "signers": return new int[] {below(m.locks.size())};
            case "lock": return new int[] {below(m.locks.size()), random.nextInt(3) == 0 ? 1 : 0};
            case "sign": return new int[] {below(m.authors.size()), below(1 << m.locks.size())};
            case "withdraw": case "state": case "isUntouched": case "voidedBy":
                return new int[] {below(m.signatures.size())};
            case "setStrict": return new int[] {random.nextInt(3) == 0 ? 1 : 0};
            case "setFee": return new int[] {below(1000)};
            case "bill": case "billAgain": case "share": return new int[] {below(m.authors.size())};
            default: return new int[0];
        }
    }

    /** Returns whether all answers were due. */
    private boolean run(long seed) {
        SignedDocument d = new SignedDocument();
        Model m = new Model();
        StringBuilder told = new StringBuilder();
        int authors = random.nextInt(4);
        for (int i = 0; i < CALLS; i++) {
            String name = i < authors ? "addAuthor" : anyName();
            int[] a = arguments(m, name);
            Object due;
            Object got;
            try {
                due = m.answer(name, a);
            } catch (RuntimeException e) {
                due = e.getClass().getSimpleName();
            }
            try {
                got = answerOf(d, name, a);
            } catch (RuntimeException e) {
                got = e.getClass().getSimpleName();
            }
            told.append(name).append(Arrays.toString(a)).append(' ');
            String outcome = due instanceof String ? name + " " + due : name;
            outcomes.merge(outcome, 1, Integer::sum);
            if (!due.equals(got)) {
                System.out.println("run " + seed + ": " + told + "answered " + got + ", due is " + due);
                return false;
            }
        }
        return true;
    }

    /** What the runs must have met often enough, or they would show little. */
    private static final String[] NEEDED = {
        "addAuthor", "addAuthor IllegalArgumentException", "addAuthor IllegalStateException",
        "type", "type IllegalArgumentException", "type IllegalStateException",
        "insert", "insert IndexOutOfBoundsException", "insert IllegalArgumentException",
        "insert IllegalStateException", "insert UnsupportedOperationException",
        "delete", "delete IndexOutOfBoundsException", "delete IllegalStateException",
        "delete UnsupportedOperationException",
        "move", "move IndexOutOfBoundsException", "move IllegalStateException", "move UnsupportedOperationException",
        "addClause", "addClause IndexOutOfBoundsException", "addClause IllegalStateException",
        "sign", "sign IndexOutOfBoundsException", "sign IllegalArgumentException", "sign IllegalStateException",
        "withdraw", "withdraw IndexOutOfBoundsException", "withdraw IllegalStateException",
        "voidedBy", "voidedBy IndexOutOfBoundsException", "voidedBy NoSuchElementException",
        "refusalReason", "refusalSubject", "refusalReason NoSuchElementException",
        "refusalSubject NoSuchElementException", "share", "share ArithmeticException",
        "share IndexOutOfBoundsException", "meanCost", "meanCost ArithmeticException",
        "outputAt", "outputAt IndexOutOfBoundsException", "isUntouched", "isConsistent",
    };

    public static void main(String[] args) {
        Map<String, Integer> outcomes = new HashMap<>();
        int wrong = 0;
        for (int seed = 0; seed < RUNS && wrong < 3; seed++) {
            if (!new ModelTest(seed, outcomes).run(seed)) wrong++;
        }
        for (String each : NEEDED) {
            if (wrong == 0 && outcomes.getOrDefault(each, 0) < 100) {
                System.out.println("met only " + outcomes.getOrDefault(each, 0) + " times: " + each);
                wrong++;
            }
        }
        if (args.length > 0) System.out.println(new java.util.TreeMap<>(outcomes));
        System.out.println(wrong == 0 ? RUNS + " runs: all answers are as due" : "answers are not as due");
        if (wrong != 0) System.exit(1);
    }
}
