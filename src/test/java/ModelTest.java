import java.util.Random;

/** All promises: runs of calls drawn with fixed seeds, asked of BureauCrown and of the Model. */
public final class ModelTest {
  private static final Bench bench = new Bench();
  private static Random random;
  private static BureauCrown x;
  private static Model model;
  private static int run;

  public static void main(String[] args) {
    int runs = args.length > 0 ? Integer.parseInt(args[0]) : 400;
    int from = args.length > 1 ? Integer.parseInt(args[1]) : 0;
    for (run = from; run < from + runs; run++) {
      random = new Random(run);
      x = new BureauCrown();
      model = new Model();
      for (int step = 0; step < 60; step++) {
        oneStep();
      }
    }
    bench.end("ModelTest");
  }

  private static void due(String call, int got, int want) {
    bench.due("run " + run + ": " + call, got, want);
  }

  private static int below(int n) {
    return random.nextInt(n);
  }

  /** Mostly 0 to n - 1, now and then just beyond, or far off. */
  private static int about(int n) {
    switch (below(40)) {
      case 0: return -1;
      case 1: return n;
      case 2: return random.nextInt();
      default: return below(n);
    }
  }

  private static void feed(int... bytes) {
    int[] words = new int[5];
    for (int from = 0; from < bytes.length; from += 20) {
      for (int k = 0; k < 20; k++) {
        int b = from + k < bytes.length ? bytes[from + k] : below(256);
        words[k / 4] = words[k / 4] << 8 | b;
      }
      due("feed", x.feed(words[0], words[1], words[2], words[3], words[4]), model.feed(words));
    }
  }

  private static void feedText(String text) {
    feed(text.chars().toArray());
  }

  private static void oneStep() {
    switch (below(10)) {
      case 0: case 1: cabinet(); break;
      case 2: case 3: law(); break;
      case 4: slip(); break;
      case 5: case 6: reckon(); break;
      default: handle(); break;
    }
    for (int what = 0; what < 10; what++) {
      due("count(" + what + ")", x.count(what), model.count(what));
    }
  }

  private static String spoilt(String text, String signs) {
    if (below(4) != 0 || text.isEmpty()) {
      return text;
    }
    int at = below(text.length() + 1);
    String sign = String.valueOf(below(8) == 0 ? (char) below(256) : signs.charAt(below(signs.length())));
    switch (below(3)) {
      case 0: return text.substring(0, at) + sign + text.substring(at);
      case 1: return at == text.length() ? text.substring(0, at - 1) : text.substring(0, at) + text.substring(at + 1);
      default: return at == text.length() ? text : text.substring(0, at) + sign + text.substring(at + 1);
    }
  }

  private static void cabinet() {
    StringBuilder text = new StringBuilder();
    String drawers = "";
    int lines = 1 + below(below(8) == 0 ? 42 : 16);
    boolean few = below(2) == 0;
    for (int k = 0; k < lines; k++) {
      text.append(k == 0 ? "" : ";");
      char d = (char) ('a' + below(12));
      if ((drawers.indexOf(d) < 0 || below(30) == 0) && below(few ? 4 : 2) == 0) {
        text.append(d).append(below(4) == 0 ? 1 + below(99) : 1 + below(15));
        drawers += d;
      } else {
        text.append((char) ('A' + below(below(2) == 0 ? 3 : 16))).append(1 + below(below(2) == 0 ? 3 : 9));
        if (below(3) == 0 && !drawers.isEmpty()) {
          text.append('>').append(below(30) == 0 ? d : drawers.charAt(below(drawers.length())));
        }
      }
    }
    String whole = spoilt(text.toString(), "abcdlABP0123456789>;");
    feedText(whole);
    int n = below(20) == 0 ? about(170) : Math.min(whole.length(), 160);
    due("cabinet \"" + whole + "\" " + n, x.cabinet(n), model.cabinet(n));
    lookAtAll();
  }

  private static String sum(int depth) {
    StringBuilder text = new StringBuilder(factor(depth));
    for (int more = below(3); more > 0; more--) {
      text.append("+-*/%".charAt(below(5))).append(factor(depth));
    }
    return text.toString();
  }

  private static String factor(int depth) {
    switch (below(depth > 5 ? 9 : 10)) {
      case 0: case 1: case 2: return String.valueOf(below(below(2) == 0 ? 10 : 100000));
      case 9: return "[" + sum(depth + 1) + "]";
      default: return String.valueOf("pszdfnaitw".charAt(below(10)));
    }
  }

  private static String choice(int depth) {
    StringBuilder text = new StringBuilder(test(depth));
    for (int more = below(5) - 2; more > 0; more--) {
      text.append(below(2) == 0 ? '|' : '&').append(test(depth));
    }
    return text.toString();
  }

  private static String test(int depth) {
    switch (below(depth > 5 ? 6 : 8)) {
      case 6: return "!" + test(depth + 1);
      case 7: return "(" + choice(depth + 1) + ")";
      case 0: return "1=1";
      default: return sum(depth) + "<>=".charAt(below(3)) + sum(depth);
    }
  }

  /** A test with so many signs open in one another. */
  private static String deep(int open) {
    if (open == 0) {
      return factor(9) + "<>=".charAt(below(3)) + factor(9);
    }
    switch (below(3)) {
      case 0: return "!" + deep(open - 1);
      case 1: return "(" + deep(open - 1) + (below(2) == 0 ? "|" : "&") + test(5) + ")";
      default: return "1<" + "[".repeat(open) + factor(9) + "]".repeat(open);
    }
  }

  private static void law() {
    StringBuilder text = new StringBuilder();
    int rules = 1 + below(below(6) == 0 ? 19 : 6);
    boolean plain = rules > 8;
    for (int k = 0; k < rules; k++) {
      char kind = "eeerrx".charAt(below(6));
      text.append(k == 0 ? "" : ";").append(kind);
      text.append(kind == 'x' ? "" : plain ? String.valueOf(below(10)) : sum(0));
      text.append('(').append(plain ? "d=" + below(9) : below(8) == 0 ? deep(below(8)) : choice(1)).append(')');
    }
    String whole = spoilt(text.toString(), "erxpszdfnaitw0123456789+-*/%()[]!&|<>=;");
    whole = whole.substring(0, Math.min(240, whole.length()));
    feedText(whole);
    int n = below(20) == 0 ? about(250) : whole.length();
    due("law \"" + whole + "\" " + n, x.law(n), model.law(n));
  }

  private static String row(int depth) {
    StringBuilder text = new StringBuilder();
    for (int more = 1 + below(6); more > 0; more--) {
      text.append(below(3) == 0 ? String.valueOf(2 + below(below(2) == 0 ? 2 : 8)) : "");
      text.append(below(4) == 0 && depth < 3 ? "(" + row(depth + 1) + ")"
          : String.valueOf((char) ('a' + below(below(2) == 0 ? 3 : 26))));
    }
    return text.toString();
  }

  private static void slip() {
    String whole = spoilt(row(below(2)), "abcz0123456789()");
    whole = whole.substring(0, Math.min(80, whole.length()));
    feedText(whole);
    int n = below(20) == 0 ? about(90) : whole.length();
    int what = below(3) == 0 ? about(26) : 100 + about(6);
    due("slip \"" + whole + "\" " + n + ", " + what, x.slip(n, what), model.slip(n, what));
  }

  private static int[] bytes(int n, int most) {
    int[] all = new int[n];
    for (int k = 0; k < n; k++) {
      all[k] = below(25) == 0 ? below(256) : below(most);
    }
    return all;
  }

  private static void reckon() {
    int n = about(13);
    int what = about(3);
    int[] small = bytes(40, 2 + below(below(2) == 0 ? 6 : 200));
    switch (below(10)) {
      case 0: secret(); break;
      case 1: feed(small); due("nest", x.nest(n), model.nest(n)); break;
      case 2: int books = about(21); feed(small); due("dusted", x.dusted(books), model.dusted(books)); break;
      case 3: int things = below(2) == 0 ? 2 : n; feed(small); due("balanced", x.balanced(things), model.balanced(things)); break;
      case 4: int m = about(17); int k = about(m < 1 ? 3 : Math.min(m, 17) + 1);
        feed(small); due("pigeonholes", x.pigeonholes(m, k, what), model.pigeonholes(m, k, what)); break;
      case 5: int wide = about(9); int along = about(9);
        due("planked", x.planked(wide, along), model.planked(wide, along)); break;
      case 6: int pieces = about(17); int twos = about(21); feed(bytes(40, Math.max(1, Math.min(pieces, 16))));
        due("unions", x.unions(pieces, twos, what), model.unions(pieces, twos, what)); break;
      case 7: heirs(); break;
      case 8: int w = below(3) == 0 ? 100 : about(10); feed(small); due("heard", x.heard(n, w), model.heard(n, w)); break;
      default: int from = about(1440); int to = about(1440);
        due("ticks", x.ticks(from, to), model.ticks(from, to)); break;
    }
  }

  private static void secret() {
    int n = 2 + below(7);
    int[] all = new int[20];
    for (int k = 0; k < 2 * n; k++) {
      all[k] = below(1 << n) & below(1 << n) & below(1 << n) & ~(1 << k / 2);
      all[k] = k % 2 == 1 ? all[k] & ~all[k - 1] : all[k];
    }
    if (below(10) == 0) {
      all[below(20)] = below(256);
    }
    feed(all);
    int count = below(20) == 0 ? about(10) : n;
    int panel = about(n);
    int what = about(2);
    due("secret", x.secret(count, panel, what), model.secret(count, panel, what));
  }

  private static void heirs() {
    int[] all = new int[20];
    all[0] = below(256) & below(256);
    all[1] = below(256) & below(256);
    all[2] = below(256);
    for (int k = 3; k < 20; k++) {
      all[k] = below(80) == 0 ? below(256) : below(k - 2);
    }
    feed(all);
    int n = about(17);
    int i = about(16);
    due("heirs", x.heirs(n, i), model.heirs(n, i));
  }

  private static void handle() {
    int n = below(3) == 0 ? about(101) : 1 + below(3);
    int p = about(12);
    int d = below(4) == 0 ? -1 : about(12);
    switch (below(8)) {
      case 0: due("days", x.days(n), model.days(n)); break;
      case 1: due("put", x.put(p, d) ? 1 : 0, model.put(p, d) ? 1 : 0); break;
      case 2: due("keep", x.keep(), model.keep()); break;
      case 3: due("undo", x.undo() ? 1 : 0, model.undo() ? 1 : 0); break;
      case 4: int s = about(65536); due("seed", x.seed(s) ? 1 : 0, model.seed(s) ? 1 : 0); break;
      case 5: due("shut", x.shut(n), model.shut(n)); break;
      case 6: check(); break;
      default: int what = below(2) == 0 ? about(4) : below(2) == 0 ? 10 + about(12) : 30 + about(24);
        due("tried", x.tried(n, what), model.tried(n, what)); break;
    }
    lookAtAll();
  }

  private static void check() {
    int[] all = new int[20];
    for (int d = 0; d < 12; d++) {
      all[d] = model.drawerIs(d, 1) & 255;
    }
    if (below(2) == 0) {
      all[below(12)] = below(20);
    }
    feed(all);
    int n = about(13);
    due("check", x.check(n), model.check(n));
  }

  private static void lookAtAll() {
    for (int d = -1; d <= 12; d++) {
      for (int what = -1; what <= 3; what++) {
        due("drawerIs", x.drawerIs(d, what), model.drawerIs(d, what));
      }
    }
    for (int p = -1; p <= 24; p++) {
      for (int what = -1; what <= 5; what++) {
        due("paperIs", x.paperIs(p, what), model.paperIs(p, what));
      }
    }
    for (int s = -1; s <= 16; s++) {
      for (int what = -1; what <= 2; what++) {
        due("ofSubject", x.ofSubject(s, what), model.ofSubject(s, what));
      }
    }
    for (int what = -1; what <= 2; what++) {
      due("free", x.free(what), model.free(what));
    }
    due("oldest", x.oldest(), model.oldest());
    due("fewest", x.fewest(), model.fewest());
  }
}
