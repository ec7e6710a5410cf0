/** Promises 13 to 21: the boundary cases, each with a test of its own that names its sentence. */
public final class TextTest extends Checks {
    private static final String NO_POSITION = "Throws `IndexOutOfBoundsException` if there is no such position";

    /** "abxycd": "xy" by the author 1, the others by 0; "[0:bx]" is a clause. */
    private static Doc byTwoAuthors() {
        Doc d = with("abcd");
        d.addAuthor(0, 0);
        put(d, 1, 2, "xy");
        d.addClause(1, 2);
        return d;
    }

    /** The positions that a text of six characters does not have. */
    private static final int[] NOT_IN_SIX = {-1, 6, 7, 59, 60, LEAST, GREATEST};

    // ---- Promise 13: length

    @Sentence(of = "Promise 13", says = "Returns the length of the text.")
    static void lengthsFrom0To60() {
        Doc d = new Doc();
        due(d.length(), 0);
        d.addAuthor(0, 0);
        put(d, 0, 0, "a");
        due(d.length(), 1);
        d.delete(0, 0, 1);
        due(d.length(), 0);
        due(withSixtyCharacters().length(), 60);
    }

    @Sentence(of = "Promise 13", says = "Returns the length of the text.")
    static void onlyInsertionsAndDeletionsChangeTheLength() {
        Doc d = byTwoAuthors();
        due(d.length(), 6);
        d.move(0, 0, 2, 4);
        d.type('q');
        d.writeText();
        d.lock(0, true);
        throwsNow(d, REFUSED, x -> x.delete(0, 0, 6));
        due(d.length(), 6);
        d.insert(0, 6);
        due(d.length(), 7);
    }

    // ---- Promises 14 to 16: charAt, authorOf, clauseOf

    @Sentence(of = "Promise 14", says = "Returns a character of the text.")
    static void theFirstAndTheLastCharacter() {
        Doc d = byTwoAuthors();
        due(d.charAt(0), 'a');
        due(d.charAt(5), 'd');
        Doc full = withSixtyCharacters();
        due(full.charAt(0), 'a');
        due(full.charAt(59), 'c');
    }

    @Sentence(of = "Promise 14", says = NO_POSITION)
    static void noSuchCharacter() {
        for (int bad : NOT_IN_SIX) fails(byTwoAuthors(), INDEX, x -> x.charAt(bad));
        fails(new Doc(), INDEX, x -> x.charAt(0));
        fails(withSixtyCharacters(), INDEX, x -> x.charAt(60));
    }

    /** The place of a character that was there once is no position any more. */
    @Sentence(of = "Promise 14", says = NO_POSITION)
    static void noSuchCharacterAfterADeletion() {
        Doc d = with("ab");
        d.delete(0, 0, 1);
        due(d.charAt(0), 'b');
        fails(d, INDEX, x -> x.charAt(1));
        d.delete(0, 0, 1);
        fails(d, INDEX, x -> x.charAt(0));
    }

    @Sentence(of = "Promise 15", says = "Returns the author of a character.")
    static void theAuthorsOfTheFirstAndTheLastCharacter() {
        Doc d = byTwoAuthors();
        int[] authors = {0, 0, 1, 1, 0, 0};
        for (int i = 0; i < 6; i++) due(d.authorOf(i), authors[i]);
        Doc full = new Doc();
        for (int i = 0; i < 5; i++) full.addAuthor(0, 0);
        for (int i = 0; i < 5; i++) put(full, i, 12 * i, "x".repeat(12));
        for (int i = 0; i < 60; i++) due(full.authorOf(i), i / 12);
    }

    @Sentence(of = "Promise 15", says = NO_POSITION)
    static void noSuchCharacterOfAnAuthor() {
        for (int bad : NOT_IN_SIX) fails(byTwoAuthors(), INDEX, x -> x.authorOf(bad));
        fails(new Doc(), INDEX, x -> x.authorOf(0));
        fails(withSixtyCharacters(), INDEX, x -> x.authorOf(60));
        Doc d = with("ab");
        d.delete(0, 0, 1);
        fails(d, INDEX, x -> x.authorOf(1));
    }

    @Sentence(of = "Promise 16", says = "Returns the clause, or -1 if it belongs to none.")
    static void aCharacterOfNoClause() {
        Doc d = byTwoAuthors();
        int[] clauses = {-1, 0, 0, -1, -1, -1};
        for (int i = 0; i < 6; i++) due(d.clauseOf(i), clauses[i]);
        d.move(0, 1, 1, 0);
        due(d.clauseOf(0), -1);
    }

    @Sentence(of = "Promise 16", says = "Returns the clause, or -1 if it belongs to none.")
    static void charactersOfAllSixClauses() {
        Doc d = with("abcdef");
        for (int i = 0; i < 6; i++) d.addClause(5 - i, 1);
        for (int i = 0; i < 6; i++) due(d.clauseOf(i), 5 - i);
    }

    @Sentence(of = "Promise 16", says = NO_POSITION)
    static void noSuchCharacterOfAClause() {
        for (int bad : NOT_IN_SIX) fails(byTwoAuthors(), INDEX, x -> x.clauseOf(bad));
        fails(new Doc(), INDEX, x -> x.clauseOf(0));
        fails(withSixtyCharacters(), INDEX, x -> x.clauseOf(60));
        Doc d = with("ab");
        d.delete(0, 0, 1);
        fails(d, INDEX, x -> x.clauseOf(1));
    }

    // ---- Promises 17 and 18: lengthAgain, charAgain

    @Sentence(of = "Promise 17", says = "Returns the length of the text that comes from doing all edits again.")
    static void lengthsAgainFrom0To60() {
        due(new Doc().lengthAgain(), 0);
        Doc d = withSixtyCharacters();
        due(d.lengthAgain(), 60);
        d.delete(0, 0, 60);
        due(d.lengthAgain(), 0);
    }

    @Sentence(of = "Promise 17", says = "Returns the length of the text that comes from doing all edits again.")
    static void aRefusedEditIsNotDoneAgain() {
        Doc d = with("abcdef");
        d.addClause(0, 6);
        d.lock(0, true);
        throwsNow(d, REFUSED, x -> x.delete(0, 0, 1));
        d.type('x');
        throwsNow(d, REFUSED, x -> x.insert(0, 3));
        due(d.lengthAgain(), 6);
        d.insert(0, 0);
        due(d.lengthAgain(), 7);
        due(plainAgain(d), "xabcdef");
    }

    /** Each insertion has characters of its own to insert again; the moves turn the text round seven times. */
    @Sentence(of = "Promise 18", says = "Returns a character of the text that comes from doing all edits again.")
    static void fortyEditsAreDoneAgain() {
        Doc d = new Doc();
        d.addAuthor(0, 0);
        for (int i = 0; i < 15; i++) {
            if (d.length() == 60) d.delete(0, 0, 60);
            typeAll(d, ("" + (char) ('a' + i)).repeat(19) + " ");
            d.insert(0, i % 3 * 10);
        }
        while (d.edits() < 40) d.move(0, 0, 20, 40);
        String nine = "nnnnnnnnn mmmmmmmmm ";
        due(plainAgain(d), "m".repeat(10) + "n".repeat(10) + "o".repeat(19) + " " + nine);
        due(d.isConsistent(), true);
    }

    @Sentence(of = "Promise 18", says = "Returns a character of the text that comes from doing all edits again.")
    static void eachKindOfEditIsDoneAgain() {
        Doc d = with("hello you");
        put(d, 0, 5, " to");
        d.move(0, 8, 4, 0);
        d.delete(0, 0, 1);
        due(plainAgain(d), "youhello to");
        d.move(0, 0, 3, 8);
        due(plainAgain(d), "hello toyou");
    }

    @Sentence(of = "Promise 18", says = NO_POSITION)
    static void noSuchCharacterAgain() {
        for (int bad : NOT_IN_SIX) fails(byTwoAuthors(), INDEX, x -> x.charAgain(bad));
        fails(new Doc(), INDEX, x -> x.charAgain(0));
        fails(withSixtyCharacters(), INDEX, x -> x.charAgain(60));
        Doc d = with("ab");
        due(d.charAgain(1), 'b');
        d.delete(0, 0, 1);
        due(d.charAgain(0), 'b');
        fails(d, INDEX, x -> x.charAgain(1));
    }

    // ---- Promise 19: writeText

    @Sentence(of = "Promise 19", says = "Writes the text to the output line, which replaces its old content.")
    static void aShorterTextReplacesALongerLine() {
        Doc d = withThreeClauses();
        due(text(d), "[0:aaa][1:bbb]cc[2:ddd]");
        d.delete(0, 1, 10);
        due(text(d), "[0:a]");
        d.delete(0, 0, 1);
        due(text(d), "");
    }

    /** The line is not the text: it changes when it is written, and no sooner. */
    @Sentence(of = "Promise 19", says = "Writes the text to the output line, which replaces its old content.")
    static void theLineStaysUntilItIsWrittenAgain() {
        Doc d = with("abc");
        d.writeText();
        d.delete(0, 0, 3);
        d.addAuthor(0, 0);
        put(d, 1, 0, "xyz");
        due(line(d), "abc");
        due(text(d), "xyz");
    }

    private static final String BRACKETS = "Before the first character of each longest sequence of characters that "
        + "belong to the same clause comes \"[\", the number of the clause and \":\", and behind the last one comes "
        + "\"]\"; for example \"xy [0:ab]c[0:d]\".";

    @Sentence(of = "Promise 19", says = BRACKETS)
    static void theExampleOfTheDocument() {
        Doc d = with("xy abd");
        d.addClause(3, 3);
        put(d, 0, 6, "cx");
        d.addClause(6, 2);
        d.move(0, 6, 2, 5);
        d.move(0, 5, 1, 5);
        d.delete(0, 6, 1);
        due(text(d), "xy [0:ab]c[0:d]");
    }

    @Sentence(of = "Promise 19", says = BRACKETS)
    static void aTextWithoutClauses() {
        due(text(with("x  y")), "x  y");
        due(text(new Doc()), "");
    }

    @Sentence(of = "Promise 19", says = BRACKETS)
    static void aClauseAtTheBeginningAndAtTheEnd() {
        Doc d = with("abcde");
        d.addClause(0, 2);
        d.addClause(3, 2);
        due(text(d), "[0:ab]c[1:de]");
        Doc whole = with("abc");
        whole.addClause(0, 3);
        due(text(whole), "[0:abc]");
    }

    @Sentence(of = "Promise 19", says = BRACKETS)
    static void twoClausesSideBySide() {
        Doc d = with("abcdef");
        for (int i = 0; i < 6; i++) d.addClause(5 - i, 1);
        due(text(d), "[5:a][4:b][3:c][2:d][1:e][0:f]");
    }

    @Sentence(of = "Promise 19", says = BRACKETS)
    static void twoSequencesOfAClauseThatMeetAreOne() {
        Doc d = with("abxy");
        d.addClause(0, 2);
        d.addClause(2, 2);
        d.move(0, 2, 2, 1);
        due(text(d), "[0:a][1:xy][0:b]");
        d.delete(0, 1, 2);
        due(text(d), "[0:ab]");
    }

    @Sentence(of = "Promise 19", says = BRACKETS)
    static void sixClausesNestedInAFullText() {
        Doc d = with("aa");
        d.addClause(0, 2);
        for (int i = 1; i < 6; i++) {
            char letter = (char) ('a' + i);
            put(d, 0, 2 * i, letter + "" + letter);
            d.addClause(2 * i, 2);
            d.move(0, 2 * i, 2, i);
        }
        for (String each : new String[] {"x".repeat(20), "y".repeat(20), "z".repeat(8)}) put(d, 0, 6, each);
        due(d.length(), 60);
        due(text(d), "[0:a][1:b][2:c][3:d][4:e][5:f" + "z".repeat(8) + "y".repeat(20) + "x".repeat(20)
            + "f][4:e][3:d][2:c][1:b][0:a]");
    }

    /** The clause 1 goes through the clause 0 and leaves a character of no clause behind at each step. */
    @Sentence(of = "Promise 19", says = BRACKETS)
    static void aLineWithTwentySequences() {
        Doc d = with("a".repeat(20));
        put(d, 0, 20, "b".repeat(20));
        put(d, 0, 40, "c".repeat(20));
        d.addClause(0, 20);
        d.addClause(20, 20);
        d.move(0, 20, 20, 1);
        d.move(0, 1, 1, 1);
        for (int i = 1; i < 18; i++) {
            d.move(0, 2 * i, 20 - i, 2 * i + 1);
            d.move(0, 2 * i + 1, 1, 2 * i + 1);
        }
        due(text(d), "[0:a]b".repeat(18) + "[1:bb][0:aa]" + "c".repeat(20));
        due(d.isConsistent(), true);
    }

    @Sentence(of = "Promise 19", says = "Returns the number of characters of the line.")
    static void theBracketsAreCounted() {
        due(new Doc().writeText(), 0);
        due(with("abc").writeText(), 3);
        Doc d = with("abc");
        d.addClause(1, 1);
        due(d.writeText(), 7);
        due(withAllLimitsReached().writeText(), 60 + 6 * 4);
    }

    // ---- Promise 20: writeClause

    @Sentence(of = "Promise 20", says = "Writes the words of a clause to the output line, which replaces its old content.")
    static void shorterWordsReplaceALongerLine() {
        Doc d = withThreeClauses();
        d.writeText();
        due(words(d, 1), "bbb");
        d.delete(0, 3, 2);
        due(line(d), "bbb");
        due(words(d, 1), "b");
        due(words(d, 0), "aaa");
    }

    @Sentence(of = "Promise 20", says = "Writes the words of a clause to the output line, which replaces its old content.")
    static void theWordsOfAClauseWithoutCharacters() {
        Doc d = withThreeClauses();
        d.writeText();
        d.delete(0, 3, 3);
        due(words(d, 1), "");
        due(words(d, 2), "ddd");
    }

    @Sentence(of = "Promise 20", says = "Writes the words of a clause to the output line, which replaces its old content.")
    static void theWordsOfAClauseWithAGap() {
        Doc d = with("abxyc");
        d.addClause(0, 2);
        d.addClause(2, 2);
        d.move(0, 2, 2, 1);
        due(words(d, 0), "ab");
        due(words(d, 1), "xy");
    }

    @Sentence(of = "Promise 20", says = "Returns the number of characters of the line.")
    static void theWordsAreCountedFrom0To60() {
        Doc d = withSixtyCharacters();
        d.addClause(0, 60);
        due(d.writeClause(0), 60);
        d.delete(0, 0, 59);
        due(d.writeClause(0), 1);
        d.delete(0, 0, 1);
        due(d.writeClause(0), 0);
    }

    @Sentence(of = "Promise 20", says = "Throws `IndexOutOfBoundsException` if there is no such clause")
    static void theWordsOfNoSuchClause() {
        fails(with("a"), INDEX, x -> x.writeClause(0));
        Doc d = withThreeClauses();
        d.writeText();
        for (int bad : new int[] {-1, 3, 5, 6, LEAST, GREATEST}) fails(d, INDEX, x -> x.writeClause(bad));
        fails(withTwelveSignatures(), INDEX, x -> x.writeClause(6));
    }

    // ---- Promise 21: outputAt

    @Sentence(of = "Promise 21", says = "Returns a character of the output line, which is initially empty.")
    static void theLineIsEmptyAtFirst() {
        Doc d = with("abc");
        for (int i = -1; i < 4; i++) {
            int bad = i;
            fails(d, INDEX, x -> x.outputAt(bad));
        }
    }

    @Sentence(of = "Promise 21", says = "- `index`: the index, counted from 0")
    static void theFirstAndTheLastCharacterOfTheLine() {
        Doc d = withThreeClauses();
        due(d.writeText(), 23);
        due(d.outputAt(0), '[');
        due(d.outputAt(1), '0');
        due(d.outputAt(2), ':');
        due(d.outputAt(3), 'a');
        due(d.outputAt(22), ']');
    }

    private static final String NO_INDEX = "Throws `IndexOutOfBoundsException` if the index is negative or not less "
        + "than the number of characters";

    @Sentence(of = "Promise 21", says = NO_INDEX)
    static void aNegativeIndex() {
        Doc d = withThreeClauses();
        d.writeText();
        fails(d, INDEX, x -> x.outputAt(-1));
        fails(d, INDEX, x -> x.outputAt(LEAST));
    }

    @Sentence(of = "Promise 21", says = NO_INDEX)
    static void anIndexNotLessThanTheNumberOfCharacters() {
        Doc d = withThreeClauses();
        d.writeText();
        fails(d, INDEX, x -> x.outputAt(23));
        fails(d, INDEX, x -> x.outputAt(299));
        fails(d, INDEX, x -> x.outputAt(300));
        fails(d, INDEX, x -> x.outputAt(GREATEST));
    }

    /** What stood behind in an older, longer line is no character of this one. */
    @Sentence(of = "Promise 21", says = NO_INDEX)
    static void anIndexOfAnOlderLine() {
        Doc d = withThreeClauses();
        d.writeText();
        d.writeClause(1);
        due(d.outputAt(2), 'b');
        fails(d, INDEX, x -> x.outputAt(3));
        d.delete(0, 0, 11);
        d.writeText();
        fails(d, INDEX, x -> x.outputAt(0));
    }

    public static void main(String[] args) {
        run(TextTest.class);
    }
}
