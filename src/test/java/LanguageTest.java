import java.io.IOException;
import java.nio.file.Files;
import java.nio.file.Path;
import java.util.ArrayList;
import java.util.List;
import java.util.regex.Matcher;
import java.util.regex.Pattern;

/** Some rules of LANGUAGE.md that can be seen in the program's text, and the promised face. */
public final class LanguageTest {
  private static final Bench bench = new Bench();

  private static final String[] FACE = {
    "boolean put(int, int)", "int feed(int, int, int, int, int)", "int law(int)", "int cabinet(int)", "int days(int)",
    "int tried(int, int)", "int drawerIs(int, int)", "int paperIs(int, int)", "int shut(int)", "int fewest()",
    "int free(int)", "int ofSubject(int, int)", "int oldest()", "int slip(int, int)", "int secret(int, int, int)",
    "int nest(int)", "int dusted(int)", "int balanced(int)", "int pigeonholes(int, int, int)", "int planked(int, int)",
    "int unions(int, int, int)", "int heirs(int, int)", "int heard(int, int)", "int ticks(int, int)",
    "boolean seed(int)", "int keep()", "boolean undo()", "int check(int)", "int count(int)",
  };

  public static void main(String[] args) throws IOException {
    String text = Files.readString(Path.of("src/main/java/BureauCrown.java"));
    String code = text.replaceAll("(?s)/\\*.*?\\*/", " ").replaceAll("//[^\n]*", " ");
    face();
    words(code);
    methods(code);
    bench.end("LanguageTest");
  }

  private static void face() {
    List<String> found = new ArrayList<>();
    for (var method : BureauCrown.class.getDeclaredMethods()) {
      if (!java.lang.reflect.Modifier.isPrivate(method.getModifiers())) {
        StringBuilder text = new StringBuilder(method.getReturnType() + " " + method.getName() + "(");
        for (int k = 0; k < method.getParameterCount(); k++) {
          text.append(k == 0 ? "" : ", ").append(method.getParameterTypes()[k]);
        }
        found.add(text.append(")").toString());
      }
    }
    for (String method : FACE) {
      bench.due("the face has " + method, found.remove(method), true);
    }
    bench.due("beyond the face: " + found, found.size(), 0);
    bench.due("constructors", BureauCrown.class.getDeclaredConstructors().length, 1);
    bench.due("NONE", BureauCrown.NONE, -1);
    for (var inner : BureauCrown.class.getDeclaredClasses()) {
      bench.due(inner + " is static", java.lang.reflect.Modifier.isStatic(inner.getModifiers()), true);
      bench.due("fields of " + inner, instanceFields(inner) <= 20, true);
    }
    bench.due("fields", instanceFields(BureauCrown.class) <= 20, true);
    bench.due("classes", BureauCrown.class.getDeclaredClasses().length < 12, true);
  }

  private static long instanceFields(Class<?> owner) {
    return java.util.Arrays.stream(owner.getDeclaredFields())
        .filter(f -> !java.lang.reflect.Modifier.isStatic(f.getModifiers())).count();
  }

  private static void words(String code) {
    String[] forbidden = {"throw", "throws", "try", "catch", "finally", "synchronized", "assert", "protected", "package",
        "Random", "System\\.(?!arraycopy)", "->", "::", "Exact", "static \\{", "Object", "String\\.format"};
    for (String word : forbidden) {
      Pattern pattern = Pattern.compile(Character.isLetter(word.charAt(0)) ? "\\b" + word : word);
      bench.due("the program has no " + word, pattern.matcher(code).find(), false);
    }
    bench.due("one import", code.split("\nimport |^import ").length, 2);
    bench.due("signs 1 to 127", code.chars().allMatch(c -> c > 0 && c < 128), true);
  }

  /** Methods of at most sixty lines and seven parameters, and no private one with a public one's name. */
  private static void methods(String code) {
    Matcher head = Pattern.compile("\n( +)((?:public |private |static |final )*)[\\w\\[\\]]+ (\\w+)\\(([^)]*)\\) \\{").matcher(code);
    int found = 0;
    while (head.find()) {
      found++;
      String name = head.group(3);
      int end = code.indexOf("\n" + head.group(1) + "}", head.end());
      long lines = code.substring(head.start(), end).lines().count();
      bench.due("lines of " + name + ": " + lines, lines <= 60, true);
      bench.due("parameters of " + name, head.group(4).split(",").length <= 7, true);
      if (!head.group(2).contains("public")) {
        boolean promised = false;
        for (String method : FACE) {
          promised |= method.contains(" " + name + "(");
        }
        bench.due("the name of " + name + " is a public one's", promised, false);
      }
    }
    bench.due("methods are found", found > 100, true);
  }
}
