import java.lang.annotation.ElementType;
import java.lang.annotation.Retention;
import java.lang.annotation.RetentionPolicy;
import java.lang.annotation.Target;

/** A test of its own for a sentence of the document that names an edge: the sentence's words, and where they stand. */
@Retention(RetentionPolicy.RUNTIME)
@Target(ElementType.METHOD)
@interface Edge {
    /** The promise under whose number the words stand; 0: they stand among the terms. */
    int promise();

    String says();
}
