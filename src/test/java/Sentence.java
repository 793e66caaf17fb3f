import java.lang.annotation.ElementType;
import java.lang.annotation.Retention;
import java.lang.annotation.RetentionPolicy;
import java.lang.annotation.Target;

/**
 * The sentence of ../shared/DOC.md that a test holds the class to: the part of the document that it stands in ("I" to "IV"
 * of the Terms, "Promise 2", "What it is", "The constants"), and its words. BoundaryTest looks whether they stand there.
 */
@Retention(RetentionPolicy.RUNTIME)
@Target(ElementType.METHOD)
@interface Sentence {
    String at();

    String says();
}
