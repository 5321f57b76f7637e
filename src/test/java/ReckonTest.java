/** Promises 11 and 16 to 25: the reckonings beside the days. */
public final class ReckonTest {
  private static final Bench bench = new Bench();

  public static void main(String[] args) {
    fewest();
    secret();
    nest();
    dusted();
    balanced();
    pigeonholes();
    planked();
    unions();
    heirs();
    heard();
    ticks();
    bench.end("ReckonTest");
  }

  private static BureauCrown fed(int... bytes) {
    BureauCrown x = new BureauCrown();
    Bench.feedBytes(x, bytes);
    return x;
  }

  /** A call that is refused must leave the tape. */
  private static void refused(String call, BureauCrown x, int got) {
    bench.due(call, got, -1);
    bench.due("tape behind " + call, x.count(6), 20);
  }

  /** A call that is not refused must empty it. */
  private static void taken(String call, BureauCrown x, int got, int due) {
    bench.due(call, got, due);
    bench.due("tape behind " + call, x.count(6), 0);
  }

  private static void fewestOf(String cabinet, int due) {
    BureauCrown x = new BureauCrown();
    bench.due("fewest without papers", x.fewest(), 0);
    Bench.cabinet(x, cabinet);
    bench.due("fewest of " + cabinet, x.fewest(), due);
  }

  private static void fewest() {
    fewestOf("a5", 0);
    fewestOf("A1", -2);
    fewestOf("a5;A5", 1);
    fewestOf("a5;A6", -2);
    fewestOf("a5;A5>a;B1", -2);
    fewestOf("a1;b2;c3;d6;A1;B2;C3", 1);
    fewestOf("a4;b4;c4;A3;B3;C3", 3);
    fewestOf("a8;b8;A5;B5;C3;D3", 2);
    fewestOf("a8;b8;A5;B4;C3;D3", 2);
    fewestOf("a8;b8;A6;B6;C4", -2);
    fewestOf("a9;b7;c5;A7;B5;C9", 3);
    fewestOf("a9;b7;c5;A7;B6;C9", -2);
    // To fill the largest drawer first with what fits best would leave one over: 6+6+3 and 5+5+5.
    fewestOf("a15;b15;c9;A6;B6;C5;D5;E5;F3", 2);
    fewestOf("l99;" + Bench.times(10, "A9", ";"), 1);
    fewestOf("l89;a9;" + Bench.times(10, "A9", ";"), 2);
    fewestOf("l99;" + Bench.times(11, "A9", ";"), -4);
    fewestOf(Bench.times(11, "A9", ";"), -4);
    fewestOf("a9;b9;c9;d9;e9;f9;g9;h9;i9;j9;k9;l9;" + Bench.times(10, "A9", ";"), 10);
    fewestOf("a8;b9;c9;d9;e9;f9;g9;h9;i9;j9;" + Bench.times(10, "A9", ";"), -2);
  }

  private static void secret() {
    int[] bytes = {0, 0b100, 0b001, 0, 0b010, 0b001};
    BureauCrown x = fed(bytes);
    refused("secret(1, 0, 0)", x, x.secret(1, 0, 0));
    refused("secret(9, 0, 0)", x, x.secret(9, 0, 0));
    refused("secret(3, 3, 0)", x, x.secret(3, 3, 0));
    refused("secret(3, -1, 0)", x, x.secret(3, -1, 0));
    refused("secret(3, 0, 2)", x, x.secret(3, 0, 2));
    refused("secret(3, 0, -1)", x, x.secret(3, 0, -1));
    taken("secret(3, 2, 0)", x, x.secret(3, 2, 0), 4);
    bench.due("secret of an empty tape", x.secret(2, 0, 0), -1);
    x = fed(bytes);
    taken("secret(3, 2, 1)", x, x.secret(3, 2, 1), 0);
    x = fed(0, 0, 0, 0);
    taken("nothing asked", x, x.secret(2, 1, 1), 1);
    x = fed(0, 0, 0, 0, 0b011, 0);
    taken("0 and 1 in any order, the lowest first", x, x.secret(3, 2, 1), 0);
    x = fed(0b10, 0, 0, 0, 0b011, 0);
    taken("1 must be first", x, x.secret(3, 2, 1), 1);
    x = fed(0, 0b10, 0, 0b01);
    taken("shut is so at first", x, x.secret(2, 1, 0), 1);
    x = fed(0b10, 0b10, 0, 0);
    taken("both open and shut: never", x, x.secret(2, 0, 0), -2);
    x = fed(0b01, 0, 0, 0);
    taken("open of itself", x, x.secret(2, 1, 0), -3);
    x = fed(0, 0, 0, 0b10);
    taken("shut of itself", x, x.secret(2, 0, 0), -3);
    x = fed(0, 0, 0, 0b100);
    taken("of a panel there is not", x, x.secret(2, 0, 0), -3);
    // The rings: each but the first can be moved only if the one ahead of it is open and those before that are shut.
    int[] rings = new int[16];
    for (int k = 1; k < 8; k++) {
      rings[2 * k] = 1 << (k - 1);
      rings[2 * k + 1] = (1 << (k - 1)) - 1;
    }
    x = fed(rings);
    taken("eight rings", x, x.secret(8, 7, 0), 128);
    x = fed(rings);
    taken("eight rings, first", x, x.secret(8, 7, 1), 0);
    x = fed(rings);
    taken("five of eight rings", x, x.secret(8, 4, 0), 16);
  }

  private static void nest() {
    BureauCrown x = fed(1, 1, 2, 2, 3, 3);
    refused("nest(0)", x, x.nest(0));
    refused("nest(13)", x, x.nest(13));
    refused("nest(11), 20 bytes", x, x.nest(11));
    taken("nest(3)", x, x.nest(3), 3);
    x = fed(3, 3, 1, 1, 2, 2);
    taken("in any order", x, x.nest(3), 3);
    x = fed(1, 9, 2, 9, 3, 9);
    taken("alike one way", x, x.nest(3), 1);
    x = fed(1, 2, 2, 1);
    taken("not turned", x, x.nest(2), 1);
    x = fed(0, 0, 255, 255, 200, 1, 1, 200, 210, 210);
    taken("bytes without sign", x, x.nest(5), 4);
    x = fed(7, 7);
    taken("one", x, x.nest(1), 1);
    x = new BureauCrown();
    int[] twelve = new int[24];
    for (int k = 0; k < 12; k++) {
      twelve[2 * k] = 12 - k;
      twelve[2 * k + 1] = 30 - k;
    }
    Bench.feedBytes(x, twelve);
    taken("twelve", x, x.nest(12), 12);
  }

  private static void dusted() {
    BureauCrown x = fed(3, 1, 2, 2, 5);
    refused("dusted(0)", x, x.dusted(0));
    refused("dusted(21)", x, x.dusted(21));
    taken("dusted(5)", x, x.dusted(5), 1);
    bench.due("dusted of an empty tape", x.dusted(1), -1);
    x = fed(255, 128, 127, 0);
    taken("all but one", x, x.dusted(4), 3);
    x = fed(4, 4, 4);
    taken("alike", x, x.dusted(3), 0);
    x = fed(2, 1, 4, 3, 6, 5, 8, 7);
    taken("pairs", x, x.dusted(8), 4);
    x = fed(20, 1, 2, 3, 4, 5, 6, 7, 8, 9, 10, 11, 12, 13, 14, 15, 16, 17, 18, 19);
    taken("dusted(20)", x, x.dusted(20), 1);
  }

  private static void balanced() {
    BureauCrown x = fed(0, 2, 9, 1);
    refused("balanced(0)", x, x.balanced(0));
    refused("balanced(13)", x, x.balanced(13));
    refused("balanced(11), 20 bytes", x, x.balanced(11));
    taken("balanced(2)", x, x.balanced(2), 3);
    x = fed(0, 2, 8, 1);
    taken("no whole place", x, x.balanced(2), -2);
    x = fed(9, 0, 8, 0);
    taken("no weight at all", x, x.balanced(2), 0);
    x = fed(255, 255, 255, 255);
    taken("the far end", x, x.balanced(2), 255);
    x = fed(0, 255, 255, 255);
    taken("half way is none", x, x.balanced(2), -2);
    x = fed(1, 1, 5, 1, 9, 0);
    taken("three", x, x.balanced(3), 3);
  }

  private static void pigeonholes() {
    int[] bytes = {3, 8, 13};
    BureauCrown x = fed(bytes);
    refused("pigeonholes(1, 1, 0)", x, x.pigeonholes(1, 1, 0));
    refused("pigeonholes(17, 1, 0)", x, x.pigeonholes(17, 1, 0));
    refused("pigeonholes(5, 0, 0)", x, x.pigeonholes(5, 0, 0));
    refused("pigeonholes(5, 6, 0)", x, x.pigeonholes(5, 6, 0));
    refused("pigeonholes(5, 3, 3)", x, x.pigeonholes(5, 3, 3));
    refused("pigeonholes(5, 3, -1)", x, x.pigeonholes(5, 3, -1));
    taken("looked at", x, x.pigeonholes(5, 3, 0), 6);
    bench.due("pigeonholes of an empty tape", x.pigeonholes(5, 3, 0), -1);
    x = fed(bytes);
    taken("where the last lies", x, x.pigeonholes(5, 3, 1), 0);
    x = fed(bytes);
    taken("longest row", x, x.pigeonholes(5, 3, 2), 3);
    x = fed(255, 254, 253);
    taken("bytes without sign", x, x.pigeonholes(16, 3, 1), 13);
    x = fed(0, 2, 3, 15);
    taken("round", x, x.pigeonholes(16, 4, 2), 2);
    x = fed(1, 3, 4, 6, 7, 8);
    taken("the longest of three", x, x.pigeonholes(10, 6, 2), 3);
    x = fed(new int[16]);
    taken("all in one: looked at", x, x.pigeonholes(16, 16, 0), 136);
    x = fed(new int[16]);
    taken("all in one: row", x, x.pigeonholes(16, 16, 2), 16);
  }

  private static void planked() {
    BureauCrown x = new BureauCrown();
    bench.due("planked(0, 1)", x.planked(0, 1), -1);
    bench.due("planked(1, 0)", x.planked(1, 0), -1);
    bench.due("planked(9, 2)", x.planked(9, 2), -1);
    bench.due("planked(2, 9)", x.planked(2, 9), -1);
    bench.due("planked(1, 1)", x.planked(1, 1), 0);
    bench.due("planked(1, 2)", x.planked(1, 2), 1);
    bench.due("planked(2, 1)", x.planked(2, 1), 1);
    bench.due("planked(2, 8)", x.planked(2, 8), 34);
    bench.due("planked(3, 4)", x.planked(3, 4), 11);
    bench.due("planked(4, 3)", x.planked(4, 3), 11);
    bench.due("planked(4, 4)", x.planked(4, 4), 36);
    bench.due("planked(5, 5)", x.planked(5, 5), 0);
    bench.due("planked(7, 8)", x.planked(7, 8), 1292697);
    bench.due("planked(8, 8)", x.planked(8, 8), 12988816);
  }

  private static void unions() {
    int[] bytes = {0, 1, 2, 2, 0, 2, 1, 2};
    BureauCrown x = fed(bytes);
    refused("unions(1, 1, 0)", x, x.unions(1, 1, 0));
    refused("unions(17, 1, 0)", x, x.unions(17, 1, 0));
    refused("unions(4, 0, 0)", x, x.unions(4, 0, 0));
    refused("unions(4, 21, 0)", x, x.unions(4, 21, 0));
    refused("unions(4, 11, 0), 20 bytes", x, x.unions(4, 11, 0));
    refused("unions(4, 4, 3)", x, x.unions(4, 4, 3));
    refused("unions(4, 4, -1)", x, x.unions(4, 4, -1));
    taken("kingdoms", x, x.unions(4, 4, 0), 2);
    x = fed(bytes);
    taken("largest", x, x.unions(4, 4, 1), 3);
    x = fed(bytes);
    taken("nothing new", x, x.unions(4, 4, 2), 2);
    x = fed(0, 1, 4, 0);
    taken("a piece there is not", x, x.unions(4, 2, 0), -3);
    x = fed(0, 1, 4, 0);
    taken("a piece beyond is not asked", x, x.unions(4, 1, 0), 3);
    x = fed(0, 1, 2, 3, 4, 5, 5, 0);
    taken("two joined", x, x.unions(8, 4, 1), 4);
    x = fed(255, 0);
    taken("255", x, x.unions(16, 1, 0), -3);
    x = new BureauCrown();
    int[] forty = new int[40];
    for (int k = 0; k < 15; k++) {
      forty[2 * k] = k + 1;
      forty[2 * k + 1] = k;
    }
    Bench.feedBytes(x, forty);
    taken("all in one", x, x.unions(16, 20, 1), 16);
    Bench.feedBytes(x, forty);
    taken("all in one", x, x.unions(16, 20, 0), 1);
    Bench.feedBytes(x, forty);
    taken("all in one", x, x.unions(16, 20, 2), 5);
  }

  private static void heirs() {
    // 0 has 1 and 2; 1 has 3 and 5; 2 has 4: the line is 0 1 3 5 2 4.
    int[] bytes = {0, 0, 99, 0, 0, 1, 2, 1};
    int[] line = {0, 1, 3, 5, 2, 4, -4};
    BureauCrown x = fed(bytes);
    refused("heirs(0, 0)", x, x.heirs(0, 0));
    refused("heirs(17, 0)", x, x.heirs(17, 0));
    refused("heirs(6, -1)", x, x.heirs(6, -1));
    refused("heirs(6, 16)", x, x.heirs(6, 16));
    for (int i = 0; i < line.length; i++) {
      x = fed(bytes);
      taken("heirs(6, " + i + ")", x, x.heirs(6, i), line[i]);
    }
    bench.due("heirs of an empty tape", x.heirs(1, 0), -1);
    bytes[1] = 0b101010;
    int[] whole = {0, 2, 4, -4};
    for (int i = 0; i < whole.length; i++) {
      x = fed(bytes);
      taken("broken, heirs(6, " + i + ")", x, x.heirs(6, i), whole[i]);
    }
    x = fed(0, 0, 0, 1);
    taken("from itself", x, x.heirs(2, 0), -3);
    x = fed(0, 0, 0, 0, 255);
    taken("from a higher one", x, x.heirs(3, 0), -3);
    x = fed(255, 255, 0);
    taken("all broken", x, x.heirs(1, 0), -4);
    x = fed(0b10000000, 0, 0, 0, 1, 2, 3, 4, 5, 6, 7, 8, 9, 10, 11, 12, 13, 14);
    taken("the 16th broken", x, x.heirs(16, 15), -4);
    x = fed(0b10000000, 0, 0, 0, 1, 2, 3, 4, 5, 6, 7, 8, 9, 10, 11, 12, 13, 14);
    taken("the 15th of a long line", x, x.heirs(16, 14), 14);
    x = fed(0, 0, 0, 0, 0, 0, 0, 0, 0, 0, 0, 0, 0, 0, 0, 0, 0, 0);
    taken("the 16th of a wide line", x, x.heirs(16, 15), 15);
  }

  private static void heard() {
    // By rank: 1 (9), 0 and 3 (5), 2 (1).
    int[] bytes = {5, 10, 9, 200, 1, 7, 5, 20};
    int[] ends = {210, 200, 237, 230};
    BureauCrown x = fed(bytes);
    refused("heard(0, 0)", x, x.heard(0, 0));
    refused("heard(11, 0)", x, x.heard(11, 0));
    refused("heard(4, 4)", x, x.heard(4, 4));
    refused("heard(4, -1)", x, x.heard(4, -1));
    refused("heard(4, 99)", x, x.heard(4, 99));
    refused("heard(4, 101)", x, x.heard(4, 101));
    for (int k = 0; k < ends.length; k++) {
      x = fed(bytes);
      taken("heard(4, " + k + ")", x, x.heard(4, k), ends[k]);
    }
    bench.due("heard of an empty tape", x.heard(1, 0), -1);
    x = fed(bytes);
    taken("heard(4, 100)", x, x.heard(4, 100), 200 + 0 + 230 + 210);
    x = fed(1, 0);
    taken("no time at all", x, x.heard(1, 0), 0);
    x = fed(255, 1, 127, 1);
    taken("ranks without sign", x, x.heard(2, 1), 2);
  }

  private static void ticks() {
    BureauCrown x = new BureauCrown();
    bench.due("ticks(-1, 0)", x.ticks(-1, 0), -1);
    bench.due("ticks(0, 1440)", x.ticks(0, 1440), -1);
    bench.due("ticks(1440, 1440)", x.ticks(1440, 1440), -1);
    bench.due("ticks(5, 4)", x.ticks(5, 4), -1);
    bench.due("ticks(0, 0)", x.ticks(0, 0), 12);
    bench.due("ticks(720, 720)", x.ticks(720, 720), 12);
    bench.due("ticks(660, 660)", x.ticks(660, 660), 11);
    bench.due("ticks(780, 780)", x.ticks(780, 780), 1);
    bench.due("ticks(30, 30)", x.ticks(30, 30), 1);
    bench.due("ticks(1, 29)", x.ticks(1, 29), 0);
    bench.due("ticks(0, 60)", x.ticks(0, 60), 14);
    bench.due("ticks(1, 59)", x.ticks(1, 59), 1);
    bench.due("ticks(0, 1439)", x.ticks(0, 1439), 180);
    bench.due("ticks(1439, 1439)", x.ticks(1439, 1439), 0);
  }
}
