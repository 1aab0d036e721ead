import java.lang.annotation.ElementType;
import java.lang.annotation.Retention;
import java.lang.annotation.RetentionPolicy;
import java.lang.annotation.Target;

/** Names the sentence of the document that a test holds: the test fails if the sentence is broken. */
@Retention(RetentionPolicy.RUNTIME)
@Target(ElementType.METHOD)
@interface Holds {
    /** The promise by whose method the sentence is tested. */
    int promise();

    /** The sentence, or a piece of it, word by word; it stands in the section of the promise or in one that holds for all. */
    String says();
}
