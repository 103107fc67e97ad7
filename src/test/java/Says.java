import java.lang.annotation.ElementType;
import java.lang.annotation.Retention;
import java.lang.annotation.RetentionPolicy;
import java.lang.annotation.Target;

/**
 * Stands above a test and tells the sentences of the document that it belongs to: the head of
 * "Terms" or the promise, a colon and a blank, and the document's own words.
 */
@Retention(RetentionPolicy.RUNTIME)
@Target(ElementType.METHOD)
@interface Says {
  String[] value();
}
