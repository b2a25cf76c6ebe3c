import java.lang.annotation.ElementType;
import java.lang.annotation.Retention;
import java.lang.annotation.RetentionPolicy;
import java.lang.annotation.Target;

/** The sentences of the document, word for word, whose boundaries a test holds; DocumentTest looks them up there. */
@Retention(RetentionPolicy.RUNTIME)
@Target(ElementType.METHOD)
@interface Says {
    /** "Promise 3", or the word in capitals that begins a part of the description, as "SIEGE TEXT". */
    String in();

    String[] value();
}
