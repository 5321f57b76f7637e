/** Promises 1, 2, 3, 5, 8, 9, 12, 13, 14, 26 to 30: what lies in the bureau, and what is told of it. */
public final class CabinetTest {
  private static final Bench bench = new Bench();

  public static void main(String[] args) {
    newObject();
    tape();
    cabinetFaults();
    cabinetLimits();
    cabinetInPlace();
    put();
    drawersAndPapers();
    freeSubjectOldest();
    seed();
    keepAndUndo();
    undoIntoAnotherCabinet();
    check();
    bench.end("CabinetTest");
  }

  private static void newObject() {
    BureauCrown x = new BureauCrown();
    int[] due = {0, 0, 0, 0, 0, 0, 0, 1, 0, 0, -1};
    for (int what = 0; what < due.length; what++) {
      bench.due("new: count(" + what + ")", x.count(what), due[what]);
    }
    bench.due("new: count(-1)", x.count(-1), -1);
    bench.due("new: undo", x.undo(), false);
    bench.due("new: oldest", x.oldest(), -2);
    bench.due("new: paperIs(0, 0)", x.paperIs(0, 0), -1);
    bench.due("new: drawerIs(0, 0)", x.drawerIs(0, 0), -1);
    bench.due("new: put(0, -1)", x.put(0, -1), false);
    bench.due("new: days(3)", x.days(3), 0);
    bench.due("new: THE DAY behind days(3)", x.count(0), 3);
    bench.due("new: no draws without drawers and papers", x.count(7), 1);
  }

  private static void tape() {
    BureauCrown x = new BureauCrown();
    for (int k = 1; k <= 13; k++) {
      bench.due("feed " + k, x.feed(0, 0, 0, 0, 0), 20 * k);
    }
    bench.due("feed beyond 260", x.feed(1, 2, 3, 4, 5), -1);
    bench.due("tape stays", x.count(6), 260);
    bench.due("law(0)", x.law(0), -1);
    bench.due("law(241)", x.law(241), -1);
    bench.due("cabinet(0)", x.cabinet(0), -1);
    bench.due("cabinet(161)", x.cabinet(161), -1);
    bench.due("tape stays", x.count(6), 260);
    bench.due("cabinet(160)", x.cabinet(160), -1000);
    bench.due("tape is empty", x.count(6), 0);
    bench.due("feed", x.feed(0x61393961, 0xff000000, 0, 0, -1), 20);
    bench.due("cabinet(21)", x.cabinet(21), -1);
    bench.due("law(21)", x.law(21), -1);
    bench.due("cabinet(3)", x.cabinet(3), 1);
    bench.due("a99", x.drawerIs(0, 0), 99);
    // The highest byte of each int comes first, and none is taken with its sign.
    x.feed(0x00ffffff, 0xffffffff, -1, -1, -1);
    bench.due("check of 0, 255 and so on", x.check(12), -1);
    x.feed(0x00ffffff, 0xfffffeff, -1, -1, -1);
    bench.due("check with 254", x.check(12), 6);
  }

  private static void cabinetFault(String text, int due) {
    BureauCrown x = new BureauCrown();
    Bench.cabinet(x, "b7;C3>b");
    bench.due("cabinet \"" + text + "\"", Bench.cabinet(x, text), due);
    bench.due("tape behind \"" + text + "\"", x.count(6), 0);
    if (due < 0) {
      bench.due("all stays behind \"" + text + "\"", x.count(1) * 1000 + x.count(8), 2003);
    }
  }

  private static void cabinetFaults() {
    cabinetFault("a5", 1);
    cabinetFault("a05", 1);
    cabinetFault("l99;P9>l", 2);
    cabinetFault("m5", -1000);
    cabinetFault("Q5", -1000);
    cabinetFault(";", -1000);
    cabinetFault(" a5", -1000);
    cabinetFault("a", -1001);
    cabinetFault("a;", -1001);
    cabinetFault("a5;", -1003);
    cabinetFault("a5 ", -1002);
    cabinetFault("a5>a", -1002);
    cabinetFault("A", -1001);
    cabinetFault("A0", -1001);
    cabinetFault("A12", -1002);
    cabinetFault("A1>", -1003);
    cabinetFault("A1>m", -1003);
    cabinetFault("a5;A1>aa", -1007);
    cabinetFault("a123", -2003);
    cabinetFault("a000", -2003);
    cabinetFault("a0", -3001);
    cabinetFault("a00", -3001);
    cabinetFault("a00;x", -3001);
    cabinetFault("a0x", -3001);
    cabinetFault("a5;a", -6003);
    cabinetFault("a5;b5;a0", -6006);
    cabinetFault("A1>a;a5", -7003);
    cabinetFault("b5;A1>a", -7006);
    cabinetFault("a5;A6>a", -8006);
    cabinetFault("a5;A2>a;B2>a;C1>a", 4);
    cabinetFault("a5;A2>a;B2>a;C2>a", -8016);
    cabinetFault("a5;A2>a;B2>a;C2>b", -7016);
  }

  private static void cabinetLimits() {
    String papers = Bench.times(24, "A1", ";");
    cabinetFault(papers, 24);
    cabinetFault(papers + ";P", -4072);
    cabinetFault(papers + ";Q", -1072);
    String drawers = "a1;b1;c1;d1;e1;f1;g1;h1;i1;j1;k1;l1";
    cabinetFault(papers + ";" + drawers, 36);
    cabinetFault(papers + ";" + drawers + ";", -1108);
    cabinetFault(papers + ";" + drawers + ";a", -4108);
    cabinetFault(papers + ";" + drawers + ";A", -4108);
    cabinetFault(papers + ";" + drawers + ";m", -1108);
    cabinetFault(drawers + ";a1", -6036);
    // 24 papers, 12 drawers: 160 bytes are reached with drawers named.
    cabinetFault("a99;b99;c1;d1;e1;f1;g1;h1;i1;j1;k1;l1;" + Bench.times(24, "A1>a", ";"), 36);
  }

  private static void cabinetInPlace() {
    BureauCrown x = new BureauCrown();
    Bench.cabinet(x, "a9;A1>a;B2");
    Bench.law(x, "e1(1=1);r10(1=1)");
    x.days(2);
    bench.due("READ", x.count(4), 3);
    int drawn = x.count(7);
    bench.due("another cabinet", Bench.cabinet(x, "a9;b8;A1>a"), 3);
    bench.due("nothing READ", x.count(4), 0);
    bench.due("DAYS 0", x.paperIs(0, 4), 0);
    bench.due("papers", x.count(2), 1);
    bench.due("told", x.count(1), 3);
    bench.due("FULL of all", x.count(8), 1);
    bench.due("ROOM of all", x.count(9), 17);
    bench.due("THE DAY stays", x.count(0), 2);
    bench.due("X stays", x.count(7), drawn);
    bench.due("RULES stay", x.count(5), 2);
  }

  private static void put() {
    BureauCrown x = new BureauCrown();
    Bench.cabinet(x, "a5;b9;A4;B5>b;C2");
    Bench.law(x, "r10(1=1)");
    bench.due("put(-1, 0)", x.put(-1, 0), false);
    bench.due("put(3, 0)", x.put(3, 0), false);
    bench.due("put(0, 2), not told", x.put(0, 2), false);
    bench.due("put(0, 12)", x.put(0, 12), false);
    bench.due("put(0, -2)", x.put(0, -2), false);
    bench.due("put(0, -1), is OUT", x.put(0, -1), true);
    bench.due("put(0, 0)", x.put(0, 0), true);
    bench.due("put(2, 0), no ROOM", x.put(2, 0), false);
    bench.due("where it was", x.paperIs(2, 2), -2);
    x.days(3);
    bench.due("DAYS", x.paperIs(0, 4), 3);
    bench.due("put(0, 0) again, ROOM is not asked", x.put(0, 0), true);
    bench.due("DAYS stay", x.paperIs(0, 4), 3);
    bench.due("READ", x.paperIs(0, 3), 1);
    bench.due("put(0, 1)", x.put(0, 1), true);
    bench.due("DAYS are 0 in another", x.paperIs(0, 4), 0);
    bench.due("READ stays", x.paperIs(0, 3), 1);
    bench.due("FULL of the one left", x.drawerIs(0, 1), 0);
    bench.due("FULL of the other", x.drawerIs(1, 1), 9);
    bench.due("put(1, 0)", x.put(1, 0), true);
    bench.due("put(1, -1)", x.put(1, -1), true);
    bench.due("OUT: not READ", x.paperIs(1, 3), 0);
    bench.due("OUT: DAYS 0", x.paperIs(1, 4), 0);
    bench.due("OUT: FULL", x.drawerIs(0, 1), 0);
    bench.due("OUT: bits", x.count(3), 6);
  }

  private static void drawersAndPapers() {
    BureauCrown x = new BureauCrown();
    Bench.cabinet(x, "c30;l2;P9>c;A1;B2>c;C1>l");
    bench.due("drawerIs(2, 0)", x.drawerIs(2, 0), 30);
    bench.due("drawerIs(2, 1)", x.drawerIs(2, 1), 11);
    bench.due("drawerIs(2, 2)", x.drawerIs(2, 2), 5);
    bench.due("drawerIs(11, 2)", x.drawerIs(11, 2), 8);
    bench.due("drawerIs(2, 3)", x.drawerIs(2, 3), -1);
    bench.due("drawerIs(2, -1)", x.drawerIs(2, -1), -1);
    bench.due("drawerIs(0, 0)", x.drawerIs(0, 0), -1);
    bench.due("drawerIs(-1, 0)", x.drawerIs(-1, 0), -1);
    bench.due("drawerIs(12, 0)", x.drawerIs(12, 0), -1);
    bench.due("paperIs(0, 0)", x.paperIs(0, 0), 15);
    bench.due("paperIs(0, 1)", x.paperIs(0, 1), 9);
    bench.due("paperIs(0, 2)", x.paperIs(0, 2), 2);
    bench.due("paperIs(1, 2)", x.paperIs(1, 2), -2);
    bench.due("paperIs(0, 5)", x.paperIs(0, 5), -1);
    bench.due("paperIs(0, -1)", x.paperIs(0, -1), -1);
    bench.due("paperIs(4, 0)", x.paperIs(4, 0), -1);
    bench.due("paperIs(-1, 0)", x.paperIs(-1, 0), -1);
    bench.due("count(1)", x.count(1), 1 << 2 | 1 << 11);
    bench.due("count(3)", x.count(3), 2);
    bench.due("count(10)", x.count(10), -1);
  }

  private static void freeSubjectOldest() {
    BureauCrown x = new BureauCrown();
    bench.due("free(0) without drawers", x.free(0), -2);
    bench.due("free(2) without drawers", x.free(2), -1);
    Bench.cabinet(x, "b5;c7;d9;A4>d;A2;B2>c;A1>b");
    bench.due("free(0)", x.free(0), 5);
    bench.due("free(1), of like ones the lowest", x.free(1), 2);
    bench.due("free(2)", x.free(2), -1);
    bench.due("free(-1)", x.free(-1), -1);
    bench.due("ofSubject(0, 0)", x.ofSubject(0, 0), 3);
    bench.due("ofSubject(0, 1)", x.ofSubject(0, 1), 5);
    bench.due("ofSubject(1, 1)", x.ofSubject(1, 1), 2);
    bench.due("ofSubject(15, 0)", x.ofSubject(15, 0), 0);
    bench.due("ofSubject(16, 0)", x.ofSubject(16, 0), -1);
    bench.due("ofSubject(-1, 0)", x.ofSubject(-1, 0), -1);
    bench.due("ofSubject(0, 2)", x.ofSubject(0, 2), -1);
    bench.due("oldest, all alike", x.oldest(), 0);
    x.days(2);
    x.put(0, -1);
    bench.due("oldest", x.oldest(), 2);
    x.put(2, -1);
    x.put(2, 2);
    bench.due("oldest behind put", x.oldest(), 3);
    x.put(2, -1);
    x.put(3, -1);
    bench.due("oldest, none IN", x.oldest(), -2);
  }

  private static void seed() {
    BureauCrown x = new BureauCrown();
    bench.due("seed(-1)", x.seed(-1), false);
    bench.due("seed(65536)", x.seed(65536), false);
    bench.due("X stays", x.count(7), 1);
    bench.due("seed(65535)", x.seed(65535), true);
    bench.due("X", x.count(7), 65535);
    Bench.cabinet(x, "a5");
    x.days(1);
    bench.due("X behind one draw", x.count(7), (25173L * 65535 + 13849) % 65536);
    bench.due("seed(0)", x.seed(0), true);
    x.days(1);
    bench.due("X behind one draw from 0", x.count(7), 13849);
  }

  private static void keepAndUndo() {
    BureauCrown x = new BureauCrown();
    Bench.cabinet(x, "a9;b9;A3>a;B4>b;C5");
    Bench.law(x, "e1(1=1);r10(1=1)");
    x.put(2, -1);
    x.days(1);
    int drawn = x.count(7);
    bench.due("keep", x.keep(), 1);
    x.days(3);
    x.put(0, -1);
    x.put(1, 0);
    bench.due("undo", x.undo(), true);
    bench.due("THE DAY", x.count(0), 1);
    bench.due("X", x.count(7), drawn);
    bench.due("READ", x.count(4), 7);
    bench.due("where 0", x.paperIs(0, 2), 0);
    bench.due("where 1", x.paperIs(1, 2), 1);
    bench.due("DAYS 1", x.paperIs(1, 4), 1);
    bench.due("FULL", x.drawerIs(0, 1) * 100 + x.drawerIs(1, 1), 804);
    x.days(1);
    bench.due("undo a second time", x.undo(), true);
    bench.due("THE DAY again", x.count(0), 1);
    bench.due("keep", x.keep(), 1);
    x.days(1);
    bench.due("keep the later", x.keep(), 2);
    x.days(1);
    x.undo();
    bench.due("as KEPT last", x.count(0), 2);
  }

  private static void undoIntoAnotherCabinet() {
    BureauCrown x = new BureauCrown();
    Bench.cabinet(x, "a9;b9;A3>a;B4>b;C5>a");
    Bench.law(x, "r10(1=1)");
    x.days(2);
    x.keep();
    // b is not told now, the third fits no more beside the fourth, which is beyond those that were KEPT with it.
    Bench.cabinet(x, "a8;A4;B1>a;C2;D4>a");
    bench.due("undo", x.undo(), true);
    bench.due("0 put back with its new SIZE", x.paperIs(0, 2), 0);
    bench.due("0 DAYS", x.paperIs(0, 4), 2);
    bench.due("0 READ", x.paperIs(0, 3), 1);
    bench.due("1 is OUT: not told", x.paperIs(1, 2), -2);
    bench.due("1 is not READ", x.paperIs(1, 3), 0);
    bench.due("2 is OUT: no ROOM", x.paperIs(2, 2), -2);
    bench.due("2 DAYS", x.paperIs(2, 4), 0);
    bench.due("3 stays", x.paperIs(3, 2), 0);
    bench.due("FULL", x.drawerIs(0, 1), 8);
    Bench.cabinet(x, "a9;A3");
    bench.due("undo into fewer papers", x.undo(), true);
    bench.due("papers stay as many", x.count(2), 1);
    bench.due("0 is IN", x.paperIs(0, 2), 0);
  }

  private static void check() {
    BureauCrown x = new BureauCrown();
    bench.due("check(0) of an empty tape", x.check(0), -1);
    bench.due("check(1) of an empty tape", x.check(1), -2);
    bench.due("check(-1)", x.check(-1), -2);
    Bench.cabinet(x, "a9;c9;A3>a;B4>c");
    Bench.feedBytes(x, 3, 255, 4, 255, 255, 255, 255, 255, 255, 255, 255, 0);
    bench.due("check(13)", x.check(13), -2);
    bench.due("tape stays", x.count(6), 20);
    bench.due("check(12)", x.check(12), 11);
    bench.due("tape is empty", x.count(6), 0);
    Bench.feedBytes(x, 3, 255, 4, 255);
    bench.due("check(4)", x.check(4), -1);
    Bench.feedBytes(x, 3, 0, 4);
    bench.due("check(3)", x.check(3), 1);
    Bench.feedBytes(x, 9);
    bench.due("check(0)", x.check(0), -1);
    bench.due("tape is empty behind check(0)", x.count(6), 0);
  }
}
