import java.lang.reflect.InvocationTargetException;
import java.lang.reflect.Method;
import java.util.ArrayList;
import java.util.Comparator;
import java.util.List;
import java.util.NoSuchElementException;
import java.util.function.Consumer;

/** What the tests have in common: checks that are counted, documents to begin with, and looks at a whole one. */
abstract class Checks {
    static final int LEAST = Integer.MIN_VALUE;
    static final int GREATEST = Integer.MAX_VALUE;
    static final Class<?> INDEX = IndexOutOfBoundsException.class;
    static final Class<?> ARGUMENT = IllegalArgumentException.class;
    static final Class<?> STATE = IllegalStateException.class;
    static final Class<?> REFUSED = UnsupportedOperationException.class;
    static final Class<?> NOTHING = NoSuchElementException.class;
    static final Class<?> ARITHMETIC = ArithmeticException.class;

    private static int checks = 0;
    private static int wrong = 0;
    private static Method running = null;

    // ---- running the tests of a class

    /** Runs each test of the class; the exit code is 1 if there was a fault. */
    static void run(Class<?> tests) {
        List<Method> methods = testsOf(tests);
        for (Method each : methods) {
            runOne(each);
        }
        if (methods.isEmpty()) fault("no tests");
        String told = methods.size() + " tests, " + checks + " checks: ";
        System.out.println(told + (wrong == 0 ? "all as due" : wrong + " faults"));
        if (wrong != 0) System.exit(1);
    }

    /** A test names its sentence, or bears a name after the promise that it is about. */
    static List<Method> testsOf(Class<?> tests) {
        List<Method> methods = new ArrayList<>();
        for (Method each : tests.getDeclaredMethods()) {
            boolean isNamed = each.getName().startsWith("promise") || each.getName().startsWith("terms");
            if (each.isAnnotationPresent(Sentence.class) || isNamed && !each.isSynthetic()) methods.add(each);
        }
        methods.sort(Comparator.comparing(Method::getName));
        return methods;
    }

    private static void runOne(Method test) {
        running = test;
        try {
            test.setAccessible(true);
            test.invoke(null);
        } catch (InvocationTargetException e) {
            fault("ended with " + e.getCause(), e.getCause());
        } catch (IllegalAccessException e) {
            fault("can't be called: " + e);
        }
        running = null;
    }

    static void fault(String what) {
        fault(what, new Throwable());
    }

    /** Tells the test, its sentence, and the line of the test from which the fault came. */
    private static void fault(String what, Throwable from) {
        wrong++;
        StringBuilder place = new StringBuilder();
        if (running != null) {
            place.append(running.getDeclaringClass().getSimpleName()).append('.').append(running.getName());
            for (StackTraceElement each : from.getStackTrace()) {
                if (each.getMethodName().equals(running.getName())) {
                    place.append(", line ").append(each.getLineNumber());
                    break;
                }
            }
            Sentence sentence = running.getAnnotation(Sentence.class);
            if (sentence != null) place.append(" (").append(sentence.of()).append(": ").append(sentence.says()).append(')');
        }
        System.out.println(place + ": " + what);
    }

    // ---- single checks

    static void due(long got, long want) {
        checks++;
        if (got != want) fault("answered " + got + ", due is " + want);
    }

    static void due(boolean got, boolean want) {
        checks++;
        if (got != want) fault("answered " + got + ", due is " + want);
    }

    static void due(String got, String want) {
        checks++;
        if (!got.equals(want)) fault("answered \"" + got + "\", due is \"" + want + "\"");
    }

    static void dueD(double got, double want) {
        checks++;
        if (got != want) fault("answered " + got + ", due is " + want);
    }

    private static void dueThrown(Class<?> thrown, Class<?> kind) {
        checks++;
        if (thrown != kind) fault("threw " + thrown + ", due is " + kind);
    }

    static Class<?> thrownBy(Doc d, Consumer<Doc> call) {
        try {
            call.accept(d);
        } catch (Throwable e) {
            return e.getClass();
        }
        return null;
    }

    /** The call throws this exception; it is made on the document itself. */
    static void throwsNow(Doc d, Class<?> kind, Consumer<Doc> call) {
        dueThrown(d.attempt(call), kind);
    }

    /** The call throws this exception and changes nothing that can be seen; the document itself is left alone. */
    static void fails(Doc d, Class<?> kind, Consumer<Doc> call) {
        Doc tried = d.again();
        dueThrown(tried.attempt(call), kind);
        due(whole(tried), whole(d));
    }

    /** The call is refused for this reason and changes nothing else; it is made on the document itself. */
    static void refused(Doc d, char reason, int subject, Consumer<Doc> call) {
        String before = whole(d);
        dueThrown(d.attempt(call), REFUSED);
        String after = whole(d);
        due(after.substring(after.indexOf('|')), before.substring(before.indexOf('|')));
        due(refusal(d), reason + "" + subject);
    }

    // ---- looks at a document

    static String refusal(Doc d) {
        try {
            return d.refusalReason() + "" + d.refusalSubject();
        } catch (NoSuchElementException e) {
            return "none";
        }
    }

    /** All that can be seen of a document, the refusal first; each part is read from a copy, to keep to 512 calls. */
    static String whole(Doc d) {
        StringBuilder text = new StringBuilder(refusal(d.again()));
        text.append('|').append(line(d.again()));
        text.append('|').append(wholeOfText(d.again()));
        text.append('|').append(wholeOfEdits(d.again()));
        text.append('|').append(wholeOfClauses(d.again()));
        text.append('|').append(wholeOfAuthors(d.again()));
        text.append('|').append(wholeOfLines(d.again()));
        return text.append('|').append(wholeOfBuffer(d.again())).toString();
    }

    private static String wholeOfText(Doc d) {
        StringBuilder text = new StringBuilder(plainAgain(d));
        int length = d.length();
        for (int i = 0; i < length; i++) {
            text.append(' ').append(d.charAt(i)).append(d.authorOf(i)).append('/').append(d.clauseOf(i));
        }
        return text.toString();
    }

    private static String wholeOfEdits(Doc d) {
        StringBuilder text = new StringBuilder();
        int edits = d.edits();
        for (int i = 0; i < edits; i++) {
            text.append(d.editKind(i)).append(d.editAuthor(i)).append('=').append(d.editCost(i)).append(' ');
        }
        return text.toString();
    }

    private static String wholeOfClauses(Doc d) {
        StringBuilder text = new StringBuilder();
        int clauses = d.clauses();
        for (int i = 0; i < clauses; i++) {
            text.append(d.clauseLength(i)).append('-').append(d.signers(i)).append(d.lock(i, false)).append(' ');
        }
        int signatures = d.signatures();
        for (int i = 0; i < signatures; i++) {
            char state = d.state(i);
            text.append(state).append(d.isUntouched(i)).append(state == 'x' ? d.voidedBy(i) : -1).append(' ');
        }
        return text.append(d.setStrict(true)).toString();
    }

    private static String wholeOfAuthors(Doc d) {
        StringBuilder text = new StringBuilder();
        for (int i = 0; i < 5; i++) {
            try {
                text.append(d.bill(i)).append('=').append(d.billAgain(i)).append(' ');
            } catch (IndexOutOfBoundsException e) {
                text.append("none ");
            }
        }
        for (int i = 0; i < 5; i++) text.append(figure(d, i)).append(' ');
        return text.append(d.setFee(0)).append(d.isConsistent()).toString();
    }

    /** An author's share, and the mean cost. */
    private static String figure(Doc d, int author) {
        try {
            return d.share(author) + "/" + d.meanCost();
        } catch (IndexOutOfBoundsException | ArithmeticException e) {
            return "none";
        }
    }

    /** What is written, as far as the calls reach. */
    private static String wholeOfLines(Doc d) {
        StringBuilder text = new StringBuilder(text(d));
        int clauses = d.clauses();
        for (int i = 0; i < clauses; i++) text.append(' ').append(words(d, i));
        return text.toString();
    }

    /** How many characters the buffer takes until it is full, and what it holds, if it can be inserted. */
    private static String wholeOfBuffer(Doc d) {
        StringBuilder text = new StringBuilder();
        int room = 0;
        while (room <= 20 && thrownBy(d, x -> x.type('a')) == null) room++;
        int clauses = d.clauses();
        for (int i = 0; i < clauses; i++) d.lock(i, false);
        d.setStrict(false);
        int length = d.length();
        if (length > 40) thrownBy(d, x -> x.delete(0, 0, length));
        if (thrownBy(d, x -> x.insert(0, 0)) == null) {
            for (int i = 0; i < 20; i++) text.append(d.charAt(i));
        }
        return text.append(room).toString();
    }

    static String plain(Doc d) {
        StringBuilder text = new StringBuilder();
        int length = d.length();
        for (int i = 0; i < length; i++) text.append(d.charAt(i));
        return text.toString();
    }

    static String plainAgain(Doc d) {
        StringBuilder text = new StringBuilder();
        int length = d.lengthAgain();
        for (int i = 0; i < length; i++) text.append(d.charAgain(i));
        return text.toString();
    }

    /** The output line, read until it ends. */
    static String line(Doc d) {
        StringBuilder text = new StringBuilder();
        for (int i = 0; i <= 300; i++) {
            try {
                text.append(d.outputAt(i));
            } catch (IndexOutOfBoundsException e) {
                return text.toString();
            }
        }
        return "endless";
    }

    static String text(Doc d) {
        int count = d.writeText();
        String line = line(d);
        due(count, line.length());
        return line;
    }

    static String words(Doc d, int clause) {
        int count = d.writeClause(clause);
        String line = line(d);
        due(count, line.length());
        return line;
    }

    // ---- documents to begin with

    static void typeAll(Doc d, String characters) {
        for (int i = 0; i < characters.length(); i++) d.type(characters.charAt(i));
    }

    static int put(Doc d, int author, int position, String characters) {
        typeAll(d, characters);
        return d.insert(author, position);
    }

    /** A document with one author, who pays 1 cent for each character, and this text. */
    static Doc with(String characters) {
        Doc d = new Doc();
        d.addAuthor(0, 1);
        put(d, 0, 0, characters);
        return d;
    }

    /** "[0:aaa][1:bbb]cc[2:ddd]" with two authors; the first pays by the character, the other 5 cents an edit. */
    static Doc withThreeClauses() {
        Doc d = with("aaabbbccddd");
        d.addAuthor(1, 5);
        d.addClause(0, 3);
        d.addClause(3, 3);
        d.addClause(8, 3);
        return d;
    }

    /** "abc" by one author, after as many edits as there may be. */
    static Doc withFortyEdits() {
        Doc d = with("abc");
        for (int i = 1; i < 40; i++) due(d.move(0, 0, 1, 2), i);
        return d;
    }

    /** Twenty times "a", "b" and "c" by one author. */
    static Doc withSixtyCharacters() {
        Doc d = with("a".repeat(20));
        put(d, 0, 20, "b".repeat(20));
        put(d, 0, 40, "c".repeat(20));
        return d;
    }

    /** "[0:a][1:b]..[5:f]" by one author, with 12 signatures over the first clause. */
    static Doc withTwelveSignatures() {
        Doc d = with("abcdef");
        for (int i = 0; i < 6; i++) due(d.addClause(i, 1), i);
        for (int i = 0; i < 12; i++) due(d.sign(0, 1), i);
        return d;
    }

    /**
     * "[0:aa][1:bbb]cc[2:ddd]" with two authors, a void signature, a withdrawn one and a valid one over each of the
     * clauses 1 and 2; clause 1 is locked, and the document is strict; the fee is 9, "l1" was refused, the output
     * line is the text, and the buffer holds "pq".
     */
    static Doc withEverything() {
        Doc d = withThreeClauses();
        d.sign(0, 1);
        d.sign(1, 3);
        d.sign(1, 2);
        d.sign(0, 4);
        d.withdraw(1);
        d.setFee(9);
        d.delete(1, 0, 1);
        d.lock(1, true);
        throwsNow(d, REFUSED, x -> x.delete(0, 2, 1));
        d.setStrict(true);
        d.writeText();
        typeAll(d, "pq");
        return d;
    }

    /** Each limit reached: authors, characters, clauses, edits, signatures and the buffer. */
    static Doc withAllLimitsReached() {
        Doc d = withSixtyCharacters();
        for (int i = 1; i < 5; i++) d.addAuthor(i - 1, i);
        for (int i = 0; i < 6; i++) d.addClause(10 * i, 10);
        for (int i = 0; i < 12; i++) d.sign(i % 5, 1 << i % 6);
        for (int i = 3; i < 40; i++) d.move(1, 0, 10, 50);
        typeAll(d, "xy".repeat(10));
        return d;
    }
}
