import java.io.IOException;
import java.lang.reflect.InvocationTargetException;
import java.lang.reflect.Method;
import java.util.ArrayList;
import java.util.Comparator;
import java.util.List;

/**
 * All promises: each sentence of the document that names a boundary has a test of its own. A test is a static method
 * with @Says; its name begins with its promise, and the words it is held to stand in @Says as the document has them.
 */
public final class SentenceTest {
  private static final Class<?>[] ALL = {
    CabinetSentences.class, LawSentences.class, DaySentences.class, PaperSentences.class, SlipSentences.class,
    ReckonSentences.class, RefusalSentences.class,
  };

  public static void main(String[] args) throws IOException, IllegalAccessException {
    Bench bench = new Bench();
    Document document = Document.read();
    int[] tests = new int[Document.promises() + 1];
    List<Method> methods = methods();
    for (Method method : methods) {
      Says says = method.getAnnotation(Says.class);
      bench.under("Promise " + says.promise() + ", \"" + says.words() + "\" (" + method.getName() + "): ");
      bench.due("the name begins with the promise",
          method.getName().startsWith(String.format("promise%02d_", says.promise())), true);
      bench.due("the document has the words", document == null || document.quote(says.promise(), says.words()), true);
      int before = bench.asked();
      run(method, bench);
      bench.due("something is asked", bench.asked() > before, true);
      tests[says.promise()]++;
    }
    bench.under("");
    for (int promise = 1; promise < tests.length; promise++) {
      bench.due("promise " + promise + " has a test", tests[promise] > 0, true);
    }
    for (int section = 0; document != null && section <= Document.promises(); section++) {
      String left = document.unquoted(section);
      bench.due("no test quotes, of " + (section == 0 ? "the terms" : "promise " + section) + ": " + left,
          left.isEmpty(), true);
    }
    bench.end("SentenceTest, " + methods.size() + " sentences");
  }

  private static List<Method> methods() {
    List<Method> found = new ArrayList<>();
    for (Class<?> owner : ALL) {
      for (Method method : owner.getDeclaredMethods()) {
        if (method.isAnnotationPresent(Says.class)) {
          found.add(method);
        }
      }
    }
    found.sort(Comparator.comparing(Method::getName));
    return found;
  }

  private static void run(Method method, Bench bench) throws IllegalAccessException {
    try {
      method.invoke(null, bench);
    } catch (InvocationTargetException thrown) {
      bench.due("it threw " + thrown.getCause(), true, false);
    }
  }
}
