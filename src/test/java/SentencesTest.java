import java.io.IOException;
import java.lang.reflect.Method;
import java.nio.charset.StandardCharsets;
import java.nio.file.Files;
import java.nio.file.Path;
import java.util.ArrayList;
import java.util.LinkedHashSet;
import java.util.List;
import java.util.Set;
import java.util.TreeSet;
import java.util.regex.Matcher;
import java.util.regex.Pattern;

/**
 * Holds the tests against ../shared/DOC.md: each sentence that a test names stands there word by word, and each
 * sentence there has a test that names it, or is listed here as one that names no boundary case.
 */
public final class SentencesTest {
    private static final Class<?>[] TESTS = {TermsTest.class, EditsTest.class, TextTest.class, ClausesTest.class,
        SignaturesTest.class, BillsTest.class, ConsistencyTest.class};

    /** The section in which nothing is promised, and which therefore has no tests. */
    private static final String NOT_PROMISED = "Not promised";

    /** A parameter that names no number, a heading, or what the interface says ahead of some calls. */
    private static final Pattern WITHOUT_BOUNDARY = Pattern.compile("- `\\w+`: the [^0-9]*|\\w+\\.|Ahead of the calls .*");

    /** Which other sentences name no boundary case; what they say in the large is tested by PromiseTest. */
    private static final Set<String> NO_BOUNDARY = Set.of(
        "What it is: A shared document with tracked clauses and signatures.",
        "Terms: Authors insert, delete and move characters; clauses follow their characters; a signature "
            + "over some clauses is void as soon as their words change; edits can be refused because of locked "
            + "clauses or signatures; each edit is billed to its author.",
        "Terms: The text, the clauses and the validity of signatures can be computed in two ways: as they "
            + "are kept, and by doing all edits again.",
        "Terms: This class is not thread-safe.",
        "Promise 2: Adds an author.",
        "Promise 5: Deletes characters.",
        "Promise 6: Moves characters.",
        "Promise 8: Returns the kind of an edit.",
        "Promise 9: Returns the author of an edit.",
        "Promise 9: Returns the author.",
        "Promise 10: Returns the number of cents.",
        "Promise 13: Returns the number of characters.",
        "Promise 14: Returns the character.",
        "Promise 15: Returns the author.",
        "Promise 16: Returns the clause to which a character belongs.",
        "Promise 17: Returns the number of characters.",
        "Promise 18: Returns the character.",
        "Promise 21: Returns the character.",
        "Promise 22: Adds a clause.",
        "Promise 24: Returns the number of characters.",
        "Promise 25: Locks or unlocks a clause.",
        "Promise 27: Makes a signature.",
        "Promise 28: Withdraws a valid signature.",
        "Promise 30: Returns the state of a signature.",
        "Promise 32: Returns the edit.",
        "Promise 33: Makes the document strict or not.",
        "Promise 34: Changes the fee.",
        "Promise 35: Returns the number of cents.",
        "Promise 36: Returns the number of cents.",
        "Promise 37: Returns the share.",
        "Promise 38: Returns the mean.");

    private static int wrong = 0;

    private static void fault(String what) {
        wrong++;
        System.out.println(what);
    }

    /** The sentences, each behind its section and a colon. */
    private static Set<String> sentencesOf(List<String> lines) {
        Set<String> sentences = new LinkedHashSet<>();
        String section = null;
        boolean isCode = false;
        for (String line : lines) {
            if (line.startsWith("```")) {
                isCode = !isCode;
            } else if (line.startsWith("## ")) {
                section = line.substring(3).split(":")[0];
            } else if (!isCode && !line.isBlank() && section != null && !section.equals(NOT_PROMISED)) {
                addSentences(section, line, sentences);
            }
        }
        return sentences;
    }

    /** The first line of a promise begins with the call. */
    private static void addSentences(String section, String line, Set<String> sentences) {
        Matcher call = Pattern.compile("`[^`]*`: (.*)").matcher(line);
        String said = call.matches() ? call.group(1) : line;
        for (String each : said.split("(?<=\\.) ")) sentences.add(section + ": " + each);
    }

    private static Set<String> namedByTests() {
        Set<String> named = new TreeSet<>();
        for (Class<?> tests : TESTS) {
            for (Method test : Checks.testsOf(tests)) {
                Sentence sentence = test.getAnnotation(Sentence.class);
                if (sentence == null) {
                    fault(tests.getSimpleName() + "." + test.getName() + " names no sentence");
                } else {
                    named.add(sentence.of() + ": " + sentence.says());
                }
            }
        }
        return named;
    }

    private static boolean namesNoBoundary(String sentence) {
        String said = sentence.substring(sentence.indexOf(": ") + 2);
        return NO_BOUNDARY.contains(sentence) || WITHOUT_BOUNDARY.matcher(said).matches();
    }

    public static void main(String[] args) throws IOException {
        Set<String> sentences = sentencesOf(Files.readAllLines(Path.of("../shared/DOC.md"), StandardCharsets.UTF_8));
        Set<String> named = namedByTests();
        for (String each : named) {
            if (!sentences.contains(each)) fault("named by a test, but not in the document: " + each);
        }
        for (String each : NO_BOUNDARY) {
            if (!sentences.contains(each)) fault("listed here, but not in the document: " + each);
        }
        List<String> untested = new ArrayList<>(sentences);
        untested.removeAll(named);
        untested.removeIf(SentencesTest::namesNoBoundary);
        for (String each : untested) fault("no test names: " + each);
        String told = named.size() + " of " + sentences.size() + " sentences are named by tests: ";
        System.out.println(told + (wrong == 0 ? "all as due" : wrong + " faults"));
        if (wrong != 0) System.exit(1);
    }
}
