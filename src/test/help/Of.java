import java.lang.annotation.Retention;
import java.lang.annotation.RetentionPolicy;

/** The promise that a test belongs to (0: the terms alone) and the document's words that it holds the class to. */
@Retention(RetentionPolicy.RUNTIME)
@interface Of {
  int promise();

  String says();
}
