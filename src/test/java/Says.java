import java.lang.annotation.Retention;
import java.lang.annotation.RetentionPolicy;

/** The words of "Terms" that a case looks at, as they stand in the document but for breaks of lines. */
@Retention(RetentionPolicy.RUNTIME)
@interface Says {
    String value();
}
