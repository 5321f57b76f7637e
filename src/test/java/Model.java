import java.util.ArrayList;
import java.util.Arrays;
import java.util.HashSet;
import java.util.List;
import java.util.Set;
import java.util.TreeMap;
import java.util.TreeSet;

/** The document told a second time, plainly and slowly and with the Java library, to ask BureauCrown against. */
final class Model {
  private static final class Fault extends RuntimeException {
    private static final long serialVersionUID = 1L;
    final int answer;

    Fault(int number, int place) {
      super(null, null, false, false);
      answer = -1000 * number - place;
    }
  }

  private static final class DividedByZero extends RuntimeException {
    private static final long serialVersionUID = 1L;

    DividedByZero() {
      super(null, null, false, false);
    }
  }

  private static final class Paper {
    int subject;
    int size;
    int drawer = -2;
    boolean read;
    int days;

    Paper copy() {
      Paper p = new Paper();
      p.subject = subject;
      p.size = size;
      p.drawer = drawer;
      p.read = read;
      p.days = days;
      return p;
    }
  }

  private interface Value {
    int of(TreeMap<Character, Integer> letters);
  }

  private interface Holds {
    boolean in(TreeMap<Character, Integer> letters);
  }

  private record Rule(char kind, Value value, Holds test) { }

  private static final class State {
    TreeMap<Integer, Integer> rooms = new TreeMap<>();
    List<Paper> papers = new ArrayList<>();
    int day = 0;
    int x = 1;

    State copy() {
      State s = new State();
      s.rooms.putAll(rooms);
      for (Paper p : papers) {
        s.papers.add(p.copy());
      }
      s.day = day;
      s.x = x;
      return s;
    }

    int full(int d) {
      return papers.stream().filter(p -> p.drawer == d).mapToInt(p -> p.size).sum();
    }

    int space(int d) {
      return rooms.get(d) - full(d);
    }

    int draw() {
      x = (int) ((25173L * x + 13849) % 65536);
      return x % 10;
    }

    int bits(java.util.function.Predicate<Paper> which) {
      int bits = 0;
      for (int p = 0; p < papers.size(); p++) {
        bits += which.test(papers.get(p)) ? 1 << p : 0;
      }
      return bits;
    }
  }

  private final List<Integer> tape = new ArrayList<>();
  private State now = new State();
  private State kept = null;
  private List<Rule> rules = new ArrayList<>();
  private int readAnew = 0;

  // ---- texts

  /** A text that ends in a sign no grammar knows. */
  private String take(int n) {
    StringBuilder text = new StringBuilder();
    for (int i = 0; i < n; i++) {
      text.append((char) (int) tape.get(i));
    }
    tape.clear();
    return text.append('\uffff').toString();
  }

  private int[] takeBytes(int n) {
    int[] bytes = new int[n];
    for (int i = 0; i < n; i++) {
      bytes[i] = tape.get(i);
    }
    tape.clear();
    return bytes;
  }

  private final class LawText {
    final String text;
    int at = 0;

    LawText(String text) {
      this.text = text;
    }

    char here() {
      return text.charAt(at);
    }

    char step() {
      return text.charAt(at++);
    }

    void must(String signs) {
      if (signs.indexOf(here()) < 0) {
        throw new Fault(1, at);
      }
    }

    List<Rule> all() {
      List<Rule> found = new ArrayList<>();
      while (true) {
        must("erx");
        if (found.size() == 16) {
          throw new Fault(4, at);
        }
        char kind = step();
        Value value = kind == 'x' ? letters -> 1 : sum(0);
        must("(");
        step();
        Holds test = choice(1);
        must(")");
        step();
        found.add(new Rule(kind, value, test));
        must(";\uffff");
        if (step() == '\uffff') {
          return found;
        }
      }
    }

    void open(int depth) {
      if (depth == 6) {
        throw new Fault(5, at);
      }
      step();
    }

    Holds choice(int depth) {
      List<Holds> parts = new ArrayList<>();
      do {
        if (!parts.isEmpty()) {
          step();
        }
        parts.add(part(depth));
      } while (here() == '|');
      return letters -> parts.stream().anyMatch(p -> p.in(letters));
    }

    Holds part(int depth) {
      List<Holds> tests = new ArrayList<>();
      do {
        if (!tests.isEmpty()) {
          step();
        }
        tests.add(test(depth));
      } while (here() == '&');
      return letters -> tests.stream().allMatch(t -> t.in(letters));
    }

    Holds test(int depth) {
      if (here() == '!') {
        open(depth);
        Holds inner = test(depth + 1);
        return letters -> !inner.in(letters);
      }
      if (here() == '(') {
        open(depth);
        Holds inner = choice(depth + 1);
        must(")");
        step();
        return inner;
      }
      Value left = sum(depth);
      must("<>=");
      char sign = step();
      Value right = sum(depth);
      return letters -> {
        int order = Integer.compare(left.of(letters), right.of(letters));
        return sign == '<' ? order < 0 : sign == '>' ? order > 0 : order == 0;
      };
    }

    Value sum(int depth) {
      Value all = term(depth);
      while (here() == '+' || here() == '-') {
        Value left = all;
        boolean plus = step() == '+';
        Value right = term(depth);
        all = letters -> {
          long l = left.of(letters);
          long r = right.of(letters);
          return (int) (plus ? l + r : l - r);
        };
      }
      return all;
    }

    Value term(int depth) {
      Value all = factor(depth);
      while ("*/%".indexOf(here()) >= 0) {
        Value left = all;
        char sign = step();
        Value right = factor(depth);
        all = letters -> {
          long l = left.of(letters);
          long r = right.of(letters);
          if (sign != '*' && r == 0) {
            throw new DividedByZero();
          }
          return (int) (sign == '*' ? l * r : sign == '/' ? l / r : l % r);
        };
      }
      return all;
    }

    Value factor(int depth) {
      if (here() == '[') {
        open(depth);
        Value inner = sum(depth + 1);
        must("]");
        step();
        return inner;
      }
      if ("0123456789".indexOf(here()) >= 0) {
        int from = at;
        while ("0123456789".indexOf(here()) >= 0) {
          if (at - from == 5) {
            throw new Fault(2, at);
          }
          step();
        }
        int number = Integer.parseInt(text.substring(from, at));
        return letters -> number;
      }
      must("pszdfnaitw");
      char letter = step();
      return letters -> letters.get(letter);
    }
  }

  private static State cabinetOf(String text) {
    State s = new State();
    int at = 0;
    for (int lines = 0;; lines++) {
      char letter = text.charAt(at);
      boolean drawer = letter >= 'a' && letter <= 'l';
      if (!drawer && !(letter >= 'A' && letter <= 'P')) {
        throw new Fault(1, at);
      }
      if (lines == 36 || !drawer && s.papers.size() == 24) {
        throw new Fault(4, at);
      }
      at = drawer ? drawerOf(s, text, at) : paperOf(s, text, at);
      if (text.charAt(at) == '\uffff') {
        return s;
      }
      if (text.charAt(at) != ';') {
        throw new Fault(1, at);
      }
      at++;
    }
  }

  private static boolean digit(char c) {
    return c >= '0' && c <= '9';
  }

  private static int drawerOf(State s, String text, int at) {
    int d = text.charAt(at) - 'a';
    if (s.rooms.containsKey(d)) {
      throw new Fault(6, at);
    }
    int end = at + 1;
    while (digit(text.charAt(end))) {
      if (end - at == 3) {
        throw new Fault(2, end);
      }
      end++;
    }
    if (end == at + 1) {
      throw new Fault(1, end);
    }
    int room = Integer.parseInt(text.substring(at + 1, end));
    if (room == 0) {
      throw new Fault(3, at + 1);
    }
    s.rooms.put(d, room);
    return end;
  }

  private static int paperOf(State s, String text, int at) {
    Paper p = new Paper();
    p.subject = text.charAt(at) - 'A';
    if (!digit(text.charAt(at + 1)) || text.charAt(at + 1) == '0') {
      throw new Fault(1, at + 1);
    }
    p.size = text.charAt(at + 1) - '0';
    s.papers.add(p);
    if (text.charAt(at + 2) != '>') {
      return at + 2;
    }
    char letter = text.charAt(at + 3);
    if (letter < 'a' || letter > 'l') {
      throw new Fault(1, at + 3);
    }
    if (!s.rooms.containsKey(letter - 'a')) {
      throw new Fault(7, at + 3);
    }
    if (s.space(letter - 'a') < p.size) {
      throw new Fault(8, at + 3);
    }
    p.drawer = letter - 'a';
    return at + 4;
  }

  private static final class SlipText {
    final String text;
    int at = 0;

    SlipText(String text) {
      this.text = text;
    }

    /** The letters of one row, behind so many that stand ahead of it. */
    String row(int depth, int ahead) {
      String all = "";
      char close = depth == 0 ? '\uffff' : ')';
      do {
        int first = at;
        int times = 1;
        if (text.charAt(at) >= '2' && text.charAt(at) <= '9') {
          times = text.charAt(at++) - '0';
        }
        String one;
        if (text.charAt(at) >= 'a' && text.charAt(at) <= 'z') {
          one = text.substring(at, at + 1);
        } else if (text.charAt(at) == '(') {
          if (depth == 2) {
            throw new Fault(5, at);
          }
          at++;
          one = row(depth + 1, ahead + all.length());
        } else {
          throw new Fault(1, at);
        }
        at++;
        all += one.repeat(times);
        if (ahead + all.length() > 64) {
          throw new Fault(6, first);
        }
      } while (text.charAt(at) != close);
      return all;
    }
  }

  // ---- days

  private int asked(State s, char kind, int p, int d, int draw) {
    TreeMap<Character, Integer> letters = new TreeMap<>();
    boolean some = p < 24;
    letters.put('p', p);
    letters.put('s', some ? s.papers.get(p).subject : 16);
    letters.put('z', some ? s.papers.get(p).size : 0);
    letters.put('d', d);
    letters.put('f', s.space(d));
    letters.put('n', (int) s.papers.stream().filter(q -> q.drawer == d).count());
    letters.put('a', kind == 'r' ? s.papers.get(p).days : 0);
    letters.put('i', some && s.papers.get(p).read ? 1 : 0);
    letters.put('t', s.day % 100);
    letters.put('w', kind == 'e' ? 0 : draw);
    for (Rule rule : rules) {
      if (rule.kind == kind && holds(rule, letters)) {
        return Math.max(0, Math.min(kind == 'e' ? 9999 : 10, value(rule, letters)));
      }
    }
    return 0;
  }

  private static boolean holds(Rule rule, TreeMap<Character, Integer> letters) {
    try {
      return rule.test.in(letters);
    } catch (DividedByZero refused) {
      return false;
    }
  }

  private static int value(Rule rule, TreeMap<Character, Integer> letters) {
    try {
      return rule.value.of(letters);
    } catch (DividedByZero refused) {
      return 0;
    }
  }

  private int pass(State s, int n) {
    int putIn = 0;
    readAnew = 0;
    for (int k = 0; k < n && s.day < 9999; k++) {
      Set<Integer> stuck = new HashSet<>();
      for (int d : s.rooms.keySet()) {
        if (asked(s, 'x', 24, d, s.draw()) == 1) {
          stuck.add(d);
        }
      }
      for (int p = 0; p < s.papers.size(); p++) {
        Paper paper = s.papers.get(p);
        if (paper.drawer == -2) {
          int best = -2;
          int most = 0;
          for (int d : s.rooms.keySet()) {
            int wish = stuck.contains(d) || s.space(d) < paper.size ? 0 : asked(s, 'e', p, d, 0);
            if (wish > most) {
              most = wish;
              best = d;
            }
          }
          paper.drawer = best;
          putIn += best == -2 ? 0 : 1;
        }
      }
      for (int p = 0; p < s.papers.size(); p++) {
        Paper paper = s.papers.get(p);
        if (paper.drawer != -2) {
          int draw = s.draw();
          if (draw < asked(s, 'r', p, paper.drawer, draw)) {
            readAnew += paper.read ? 0 : 1;
            paper.read = true;
          }
          paper.days = Math.min(9999, paper.days + 1);
        }
      }
      s.day++;
    }
    return putIn;
  }

  private boolean paper(int p) {
    return p >= 0 && p < now.papers.size();
  }

  // ---- the face

  boolean put(int p, int d) {
    if (!paper(p) || d != -1 && !now.rooms.containsKey(d)) {
      return false;
    }
    Paper paper = now.papers.get(p);
    if (d == -1) {
      paper.drawer = -2;
      paper.read = false;
      paper.days = 0;
      return true;
    }
    if (paper.drawer == d) {
      return true;
    }
    if (now.space(d) < paper.size) {
      return false;
    }
    paper.drawer = d;
    paper.days = 0;
    return true;
  }

  int feed(int... words) {
    if (tape.size() > 240) {
      return -1;
    }
    for (byte b : java.nio.ByteBuffer.allocate(20).putInt(words[0]).putInt(words[1]).putInt(words[2])
        .putInt(words[3]).putInt(words[4]).array()) {
      tape.add(b & 255);
    }
    return tape.size();
  }

  private boolean has(int n, int low, int high) {
    return n >= low && n <= high;
  }

  int law(int n) {
    if (!has(n, 1, 240) || tape.size() < n) {
      return -1;
    }
    try {
      rules = new LawText(take(n)).all();
      return rules.size();
    } catch (Fault fault) {
      return fault.answer;
    }
  }

  int cabinet(int n) {
    if (!has(n, 1, 160) || tape.size() < n) {
      return -1;
    }
    try {
      State next = cabinetOf(take(n));
      next.day = now.day;
      next.x = now.x;
      now = next;
      return next.rooms.size() + next.papers.size();
    } catch (Fault fault) {
      return fault.answer;
    }
  }

  int days(int n) {
    return has(n, 1, 100) ? pass(now, n) : -1;
  }

  int tried(int n, int what) {
    boolean known = has(what, 0, 3) || now.rooms.containsKey(what - 10) || paper(what - 30);
    if (!has(n, 1, 100) || !known) {
      return -1;
    }
    State s = now.copy();
    int putIn = pass(s, n);
    switch (what) {
      case 0: return putIn;
      case 1: return readAnew;
      case 2: return s.bits(p -> p.drawer == -2);
      case 3: return s.bits(p -> p.read);
      default: return what < 30 ? s.full(what - 10) : s.papers.get(what - 30).drawer;
    }
  }

  int drawerIs(int d, int what) {
    if (!now.rooms.containsKey(d)) {
      return -1;
    }
    switch (what) {
      case 0: return now.rooms.get(d);
      case 1: return now.full(d);
      case 2: return now.bits(p -> p.drawer == d);
      default: return -1;
    }
  }

  int paperIs(int p, int what) {
    if (!paper(p)) {
      return -1;
    }
    Paper q = now.papers.get(p);
    int[] all = {q.subject, q.size, q.drawer, q.read ? 1 : 0, q.days};
    return has(what, 0, 4) ? all[what] : -1;
  }

  int shut(int n) {
    if (!has(n, 1, 100)) {
      return -1;
    }
    State s = now.copy();
    for (int k = 0; k <= n; k++) {
      if (s.bits(p -> p.drawer == -2) == 0) {
        return k;
      }
      pass(s, 1);
    }
    return -2;
  }

  /** Every set of drawers, every way to lay the papers: slow, but as the document has it. */
  int fewest() {
    if (now.papers.size() > 10) {
      return -4;
    }
    List<Integer> told = new ArrayList<>(now.rooms.values());
    int best = -2;
    for (int set = 0; set < 1 << told.size(); set++) {
      int many = Integer.bitCount(set);
      if (best == -2 || many < best) {
        int[] left = new int[many];
        int k = 0;
        for (int d = 0; d < told.size(); d++) {
          if ((set >> d & 1) == 1) {
            left[k++] = told.get(d);
          }
        }
        if (goesIn(0, left)) {
          best = many;
        }
      }
    }
    return best;
  }

  private boolean goesIn(int p, int[] left) {
    if (p == now.papers.size()) {
      return true;
    }
    int size = now.papers.get(p).size;
    for (int k = 0; k < left.length; k++) {
      boolean again = false;
      for (int j = 0; j < k; j++) {
        again |= left[j] == left[k];
      }
      if (!again && left[k] >= size) {
        left[k] -= size;
        boolean goes = goesIn(p + 1, left);
        left[k] += size;
        if (goes) {
          return true;
        }
      }
    }
    return false;
  }

  int free(int what) {
    if (!has(what, 0, 1)) {
      return -1;
    }
    int best = now.rooms.keySet().stream().mapToInt(now::space).max().orElse(-2);
    int which = now.rooms.keySet().stream().mapToInt(d -> d).filter(d -> now.space(d) == best).findFirst().orElse(-2);
    return what == 0 ? best : which;
  }

  int ofSubject(int s, int what) {
    if (!has(s, 0, 15) || !has(what, 0, 1)) {
      return -1;
    }
    return now.papers.stream().filter(p -> p.subject == s)
        .mapToInt(p -> what == 0 ? 1 : p.drawer == -2 ? 0 : p.size).sum();
  }

  int oldest() {
    for (int days = 9999; days >= 0; days--) {
      for (int p = 0; p < now.papers.size(); p++) {
        if (now.papers.get(p).drawer != -2 && now.papers.get(p).days == days) {
          return p;
        }
      }
    }
    return -2;
  }

  int slip(int n, int what) {
    if (!has(n, 1, 80) || !has(what, 0, 25) && !has(what, 100, 105) || tape.size() < n) {
      return -1;
    }
    String all;
    try {
      all = new SlipText(take(n)).row(0, 0);
    } catch (Fault fault) {
      return fault.answer;
    }
    int most = 0;
    int shift = 0;
    for (int c = 25; c >= 0; c--) {
      most = often(all, c) >= often(all, most) ? c : most;
      shift = vowels(all, c) >= vowels(all, shift) ? c : shift;
    }
    switch (what) {
      case 100: return all.length();
      case 101: return most;
      case 102: return often(all, most);
      case 103: return shift;
      case 104: return same(all) ? 1 : 0;
      case 105: return longestSame(all);
      default: return vowels(all, what);
    }
  }

  private static int often(String all, int letter) {
    return (int) all.chars().filter(c -> c == 'a' + letter).count();
  }

  private static int vowels(String all, int shift) {
    return (int) all.chars().filter(c -> "aeiou".indexOf('a' + (c - 'a' + shift) % 26) >= 0).count();
  }

  private static boolean same(String all) {
    return new StringBuilder(all).reverse().toString().equals(all);
  }

  private static int longestSame(String all) {
    int longest = 0;
    for (int from = 0; from < all.length(); from++) {
      for (int to = from + 1; to <= all.length(); to++) {
        if (same(all.substring(from, to))) {
          longest = Math.max(longest, to - from);
        }
      }
    }
    return longest;
  }

  int secret(int n, int panel, int what) {
    if (!has(n, 2, 8) || !has(panel, 0, n - 1) || !has(what, 0, 1) || tape.size() < 2 * n) {
      return -1;
    }
    int[] bytes = takeBytes(2 * n);
    for (int k = 0; k < 2 * n; k++) {
      if (bytes[k] >= 1 << n || (bytes[k] >> k / 2 & 1) == 1) {
        return -3;
      }
    }
    // For each state that is reached with so many moves: all panels that may have been moved first.
    TreeMap<Integer, TreeSet<Integer>> level = new TreeMap<>();
    level.put(0, new TreeSet<>());
    for (int moves = 0; moves <= 256; moves++) {
      TreeSet<Integer> firsts = new TreeSet<>();
      boolean open = false;
      TreeMap<Integer, TreeSet<Integer>> next = new TreeMap<>();
      for (int state : level.keySet()) {
        if ((state >> panel & 1) == 1) {
          open = true;
          firsts.addAll(level.get(state));
        }
        for (int k = 0; k < n; k++) {
          if ((~state & bytes[2 * k]) == 0 && (state & bytes[2 * k + 1]) == 0) {
            TreeSet<Integer> there = next.computeIfAbsent(state ^ 1 << k, s -> new TreeSet<>());
            there.addAll(moves == 0 ? Set.of(k) : level.get(state));
          }
        }
      }
      if (open) {
        return what == 0 ? moves : firsts.first();
      }
      level = next;
    }
    return -2;
  }

  int nest(int n) {
    if (!has(n, 1, 12) || tape.size() < 2 * n) {
      return -1;
    }
    int[] b = takeBytes(2 * n);
    int most = 0;
    for (int set = 1; set < 1 << n; set++) {
      boolean chain = true;
      for (int i = 0; i < n; i++) {
        for (int j = 0; j < i; j++) {
          if ((set >> i & 1) == 1 && (set >> j & 1) == 1) {
            int wide = Integer.compare(b[2 * i], b[2 * j]);
            int deep = Integer.compare(b[2 * i + 1], b[2 * j + 1]);
            chain &= wide == deep && wide != 0;
          }
        }
      }
      most = chain ? Math.max(most, Integer.bitCount(set)) : most;
    }
    return most;
  }

  int dusted(int n) {
    if (!has(n, 1, 20) || tape.size() < n) {
      return -1;
    }
    // The least last book of a row of each length that could stay.
    List<Integer> last = new ArrayList<>();
    for (int book : takeBytes(n)) {
      int k = 0;
      while (k < last.size() && last.get(k) <= book) {
        k++;
      }
      if (k == last.size()) {
        last.add(book);
      } else {
        last.set(k, book);
      }
    }
    return n - last.size();
  }

  int balanced(int n) {
    if (!has(n, 1, 12) || tape.size() < 2 * n) {
      return -1;
    }
    int[] b = takeBytes(2 * n);
    for (int place = 0; place < 256; place++) {
      int left = 0;
      int right = 0;
      for (int k = 0; k < n; k++) {
        left += Math.max(0, place - b[2 * k]) * b[2 * k + 1];
        right += Math.max(0, b[2 * k] - place) * b[2 * k + 1];
      }
      if (left == right) {
        return place;
      }
    }
    return -2;
  }

  int pigeonholes(int m, int n, int what) {
    if (!has(m, 2, 16) || !has(n, 1, m) || !has(what, 0, 2) || tape.size() < n) {
      return -1;
    }
    boolean[] used = new boolean[m];
    int looked = 0;
    int hole = 0;
    for (int number : takeBytes(n)) {
      hole = number % m;
      while (used[hole]) {
        looked++;
        hole = hole == m - 1 ? 0 : hole + 1;
      }
      looked++;
      used[hole] = true;
    }
    int longest = 0;
    for (int from = 0; from < m; from++) {
      int size = 0;
      while (size < m && used[(from + size) % m]) {
        size++;
      }
      longest = Math.max(longest, size);
    }
    return new int[] {looked, hole, longest}[what];
  }

  int planked(int wide, int along) {
    if (!has(wide, 1, 8) || !has(along, 1, 8)) {
      return -1;
    }
    // The known product: of 4 cos squared and 4 cos squared, over all squares, its fourth root.
    double product = 1;
    for (int i = 1; i <= wide; i++) {
      for (int j = 1; j <= along; j++) {
        double c = 2 * Math.cos(Math.PI * i / (wide + 1));
        double d = 2 * Math.cos(Math.PI * j / (along + 1));
        product *= Math.pow(c * c + d * d, 0.25);
      }
    }
    return (int) Math.round(product);
  }

  int unions(int n, int m, int what) {
    if (!has(n, 2, 16) || !has(m, 1, 20) || !has(what, 0, 2) || tape.size() < 2 * m) {
      return -1;
    }
    int[] b = takeBytes(2 * m);
    if (Arrays.stream(b).anyMatch(piece -> piece >= n)) {
      return -3;
    }
    List<Set<Integer>> all = new ArrayList<>();
    for (int piece = 0; piece < n; piece++) {
      all.add(new HashSet<>(Set.of(piece)));
    }
    int nothingNew = 0;
    for (int k = 0; k < m; k++) {
      int left = b[2 * k];
      int right = b[2 * k + 1];
      Set<Integer> one = all.stream().filter(s -> s.contains(left)).findFirst().orElseThrow();
      Set<Integer> two = all.stream().filter(s -> s.contains(right)).findFirst().orElseThrow();
      if (one == two) {
        nothingNew++;
      } else {
        all.remove(two);
        all.remove(one);
        Set<Integer> both = new HashSet<>(one);
        both.addAll(two);
        all.add(both);
      }
    }
    return new int[] {all.size(), all.stream().mapToInt(Set::size).max().orElse(0), nothingNew}[what];
  }

  int heirs(int n, int i) {
    if (!has(n, 1, 16) || !has(i, 0, 15) || tape.size() < n + 2) {
      return -1;
    }
    int[] b = takeBytes(n + 2);
    for (int piece = 1; piece < n; piece++) {
      if (b[piece + 2] >= piece) {
        return -3;
      }
    }
    List<Integer> line = new ArrayList<>();
    addLine(b, 0, line);
    line.removeIf(piece -> (b[piece < 8 ? 1 : 0] >> piece % 8 & 1) == 1);
    return i < line.size() ? line.get(i) : -4;
  }

  private static void addLine(int[] b, int piece, List<Integer> line) {
    line.add(piece);
    for (int child = piece + 1; child + 2 < b.length; child++) {
      if (b[child + 2] == piece) {
        addLine(b, child, line);
      }
    }
  }

  int heard(int n, int what) {
    if (!has(n, 1, 10) || !has(what, 0, n - 1) && what != 100 || tape.size() < 2 * n) {
      return -1;
    }
    int[] b = takeBytes(2 * n);
    List<Integer> order = new ArrayList<>();
    for (int k = 0; k < n; k++) {
      order.add(k);
    }
    order.sort((left, right) -> b[2 * right] - b[2 * left]);
    int minute = 0;
    int waited = 0;
    for (int k : order) {
      waited += minute;
      minute += b[2 * k + 1];
      if (k == what) {
        return minute;
      }
    }
    return waited;
  }

  int ticks(int from, int to) {
    if (from < 0 || to > 1439 || from > to) {
      return -1;
    }
    int strokes = 0;
    for (int half = 0; half < 48; half++) {
      if (30 * half >= from && 30 * half <= to) {
        strokes += half % 2 == 1 ? 1 : (half / 2 + 11) % 12 + 1;
      }
    }
    return strokes;
  }

  boolean seed(int x) {
    if (!has(x, 0, 65535)) {
      return false;
    }
    now.x = x;
    return true;
  }

  int keep() {
    kept = now.copy();
    return now.day;
  }

  boolean undo() {
    if (kept == null) {
      return false;
    }
    int both = Math.min(kept.papers.size(), now.papers.size());
    for (int p = 0; p < both; p++) {
      put(p, -1);
    }
    for (int p = 0; p < both; p++) {
      Paper was = kept.papers.get(p);
      if (was.drawer != -2 && put(p, was.drawer)) {
        now.papers.get(p).read = was.read;
        now.papers.get(p).days = was.days;
      }
    }
    now.day = kept.day;
    now.x = kept.x;
    return true;
  }

  int check(int n) {
    if (!has(n, 0, 12) || tape.size() < n) {
      return -2;
    }
    int[] b = takeBytes(n);
    for (int d = 0; d < n; d++) {
      if (b[d] != (now.rooms.containsKey(d) ? now.full(d) : 255)) {
        return d;
      }
    }
    return -1;
  }

  int count(int what) {
    switch (what) {
      case 0: return now.day;
      case 1: return now.rooms.keySet().stream().mapToInt(d -> 1 << d).sum();
      case 2: return now.papers.size();
      case 3: return now.bits(p -> p.drawer == -2);
      case 4: return now.bits(p -> p.read);
      case 5: return rules.size();
      case 6: return tape.size();
      case 7: return now.x;
      case 8: return now.papers.stream().filter(p -> p.drawer != -2).mapToInt(p -> p.size).sum();
      case 9: return now.rooms.values().stream().mapToInt(r -> r).sum();
      default: return -1;
    }
  }
}
