import java.io.IOException;
import java.lang.reflect.Method;
import java.lang.reflect.Modifier;
import java.nio.file.Files;
import java.nio.file.Path;
import java.util.ArrayList;
import java.util.List;
import java.util.regex.Matcher;
import java.util.regex.Pattern;

/** README.md: each line of its example answers what stands behind it, and its table names every call. */
public final class ReadmeTest {
  private static final Bench bench = new Bench();
  private static final String MADE = "BureauCrown crown = new BureauCrown();";
  private static final Pattern TEXT = Pattern.compile("feedText\\(crown, \"([^\"]*)\"\\);");
  private static final Pattern BYTES = Pattern.compile("feedBytes\\(crown, ([^)]*)\\);");
  private static final Pattern CALL = Pattern.compile("crown\\.(\\w+)\\(([^)]*)\\); +// (true|false|-?\\d+): .*");
  private static final Pattern ROW = Pattern.compile("(?m)^\\| `(\\w+)\\(([^)]*)\\)` \\|");

  public static void main(String[] args) throws IOException, ReflectiveOperationException {
    String page = Files.readString(Path.of("README.md"));
    example(page);
    table(page);
    bench.end("ReadmeTest");
  }

  private static void example(String page) throws ReflectiveOperationException {
    int from = page.indexOf("\n" + MADE);
    int to = from < 0 ? -1 : page.indexOf("```", from);
    bench.due("the page has an example", to > 0, true);
    if (to < 0) {
      return;
    }
    BureauCrown crown = new BureauCrown();
    for (String line : page.substring(from + 1 + MADE.length(), to).trim().split("\n")) {
      oneLine(crown, line.trim());
    }
  }

  private static void oneLine(BureauCrown crown, String line) throws ReflectiveOperationException {
    Matcher text = TEXT.matcher(line);
    Matcher bytes = BYTES.matcher(line);
    Matcher call = CALL.matcher(line);
    if (text.matches()) {
      Bench.feedText(crown, text.group(1));
    } else if (bytes.matches()) {
      Bench.feedBytes(crown, numbers(bytes.group(1)).stream().mapToInt(k -> k).toArray());
    } else if (call.matches()) {
      List<Integer> given = numbers(call.group(2));
      Method method = method(call.group(1), given.size());
      bench.due("a call of the face: " + line, method != null, true);
      if (method != null) {
        bench.due(line, String.valueOf(method.invoke(crown, given.toArray())), call.group(3));
      }
    } else {
      bench.due("a line that can be read: " + line, false, true);
    }
  }

  private static List<Integer> numbers(String list) {
    List<Integer> all = new ArrayList<>();
    for (String one : list.split(",")) {
      if (!one.isBlank()) {
        all.add(Integer.parseInt(one.trim()));
      }
    }
    return all;
  }

  private static Method method(String name, int parameters) {
    for (Method method : BureauCrown.class.getDeclaredMethods()) {
      if (Modifier.isPublic(method.getModifiers()) && method.getName().equals(name)
          && method.getParameterCount() == parameters) {
        return method;
      }
    }
    return null;
  }

  private static void table(String page) {
    List<String> rows = new ArrayList<>();
    for (Matcher row = ROW.matcher(page); row.find(); ) {
      String list = row.group(2);
      int parameters = list.isEmpty() ? 0 : list.split(",").length;
      bench.due("the class has " + row.group(), method(row.group(1), parameters) != null, true);
      rows.add(row.group(1));
    }
    for (Method method : BureauCrown.class.getDeclaredMethods()) {
      if (Modifier.isPublic(method.getModifiers())) {
        bench.due("the table has a row for " + method.getName(), rows.remove(method.getName()), true);
      }
    }
    bench.due("rows beyond: " + rows, rows.size(), 0);
  }
}
