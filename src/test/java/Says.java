import java.lang.annotation.ElementType;
import java.lang.annotation.Retention;
import java.lang.annotation.RetentionPolicy;
import java.lang.annotation.Target;

/** The promise, and the words of ../shared/DOC.md, that a test holds BureauCrown to. */
@Retention(RetentionPolicy.RUNTIME)
@Target(ElementType.METHOD)
@interface Says {
  int promise();

  /** As they stand in the section of the promise, or in 'What it is' and 'Terms'. */
  String words();
}
