import java.lang.annotation.ElementType;
import java.lang.annotation.Retention;
import java.lang.annotation.RetentionPolicy;
import java.lang.annotation.Target;

/** Names the sentence of ../shared/DOC.md for which a test stands; SentencesTest looks it up there. */
@Retention(RetentionPolicy.RUNTIME)
@Target(ElementType.METHOD)
@interface Sentence {
    /** The section: "What it is", "Terms" or "Promise n". */
    String of();

    /** The sentence, or the line, word by word. */
    String says();
}
