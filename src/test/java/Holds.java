import java.lang.annotation.ElementType;
import java.lang.annotation.Retention;
import java.lang.annotation.RetentionPolicy;
import java.lang.annotation.Target;

/** Names a test by the promises and the words of ../shared/DOC.md that it holds; QuotesTest looks these words up. */
@Retention(RetentionPolicy.RUNTIME)
@Target(ElementType.METHOD)
@interface Holds {
    int[] promise();

    String[] sentence();
}
