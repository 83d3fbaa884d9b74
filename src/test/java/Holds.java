import java.lang.annotation.ElementType;
import java.lang.annotation.Retention;
import java.lang.annotation.RetentionPolicy;
import java.lang.annotation.Target;

/** Says of a boundary test which promise it is for, and which sentence of ../shared/DOC.md it holds. */
@Retention(RetentionPolicy.RUNTIME)
@Target(ElementType.METHOD)
@interface Holds {
    int promise();

    /** The whole sentence, word for word; if the test is about a part of it, that part stands between < and >. */
    String says();
}
