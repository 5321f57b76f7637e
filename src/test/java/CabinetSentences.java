/** Promises 1, 3 and 5: a new object, the tape, the text of a cabinet. */
final class CabinetSentences {
  private static final String PAPERS_24 = Bench.times(24, "A1", ";");
  private static final String DRAWERS_12 = "a1;b1;c1;d1;e1;f1;g1;h1;i1;j1;k1;l1";

  // ---- promise 1

  @Says(promise = 1, words = "No CABINET")
  static void promise01_noCabinet(Bench bench) {
    BureauCrown x = new BureauCrown();
    bench.due("told DRAWERS", x.count(1), 0);
    bench.due("PAPERS", x.count(2), 0);
    bench.due("FULL of all", x.count(8), 0);
    bench.due("ROOM of all", x.count(9), 0);
    for (int d = 0; d < 12; d++) {
      bench.due("drawerIs(" + d + ", 0)", x.drawerIs(d, 0), -1);
    }
    for (int p = 0; p < 24; p++) {
      bench.due("paperIs(" + p + ", 2)", x.paperIs(p, 2), -1);
    }
  }

  @Says(promise = 1, words = "No CABINET, LAW")
  static void promise01_noLaw(Bench bench) {
    BureauCrown x = new BureauCrown();
    bench.due("RULES", x.count(5), 0);
    Bench.cabinet(x, "a9;A1>a;B1");
    bench.due("none is put IN", x.tried(100, 0), 0);
    bench.due("none is READ", x.tried(100, 1), 0);
  }

  @Says(promise = 1, words = "no blanks (none at first)")
  static void promise01_noneAtFirst(Bench bench) {
    BureauCrown x = new BureauCrown();
    bench.due("no CABINET at first", x.count(1) + x.count(2), 0);
    bench.due("no LAW at first", x.count(5), 0);
    bench.due("no tape at first", x.count(6), 0);
    bench.due("none KEPT at first", x.undo(), false);
  }

  @Says(promise = 1, words = "THE SEED 1")
  static void promise01_theSeedIs1(Bench bench) {
    BureauCrown x = new BureauCrown();
    bench.due("X", x.count(7), 1);
    Bench.cabinet(x, "a9");
    x.days(1);
    bench.due("X behind one DRAW", x.count(7), 39022);
  }

  @Says(promise = 1, words = "An object is used for at most 512 calls after it has been made; what later calls answer is free.")
  static void promise01_the512thCallStillHolds(Bench bench) {
    // Two calls for the cabinet, two for the law, then 507 days: the next one is the 512th.
    BureauCrown x = Bench.with("a9;A1>a", "r10(1=1)");
    for (int call = 5; call <= 511; call++) {
      x.days(1);
    }
    bench.due("the 512th call", x.paperIs(0, 4), 507);
    // Two calls a slip: the 512th is one, too.
    BureauCrown y = new BureauCrown();
    for (int call = 1; call <= 510; call += 2) {
      Bench.slip(y, "9(7a)b", 100);
    }
    bench.due("a slip as the 512th call", Bench.slip(y, "9(7a)b", 100), 64);
  }

  @Says(promise = 1, words = "All memory is the bureau's own.")
  static void promise01_allMemoryIsItsOwn(Bench bench) {
    BureauCrown x = Bench.with("a9;A1;B2", "e1(1=1)");
    BureauCrown y = Bench.with("b9;C3", "r10(1=1);x(1=2)");
    x.days(1);
    x.keep();
    x.seed(77);
    x.feed(1, 2, 3, 4, 5);
    bench.due("the other's LAW", y.count(5), 2);
    bench.due("the other's DRAWERS", y.count(1), 2);
    bench.due("the other's PAPERS", y.count(2), 1);
    bench.due("the other's OUT ones", y.count(3), 1);
    bench.due("the other's DAY", y.count(0), 0);
    bench.due("the other's X", y.count(7), 1);
    bench.due("the other's tape", y.count(6), 0);
    bench.due("the other has none KEPT", y.undo(), false);
    bench.due("its own X", x.count(7), 77);
    bench.due("its own tape", x.count(6), 20);
  }

  @Says(promise = 1, words = "The constants: `NONE = -1`: There is none.")
  static void promise01_none(Bench bench) {
    bench.due("NONE", BureauCrown.NONE, -1);
    bench.due("what there is not", new BureauCrown().paperIs(0, 0), BureauCrown.NONE);
  }

  // ---- promise 3

  @Says(promise = 3, words = "Twenty bytes come behind the tape")
  static void promise03_twentyBytesBehindTheTape(Bench bench) {
    BureauCrown x = new BureauCrown();
    Bench.feedText(x, Bench.times(20, "a", ""));
    Bench.feedText(x, "bcdefghijklmnopqrst!");
    bench.due("a slip over both", x.slip(40, 100), -1039);
    Bench.feedText(x, Bench.times(20, "a", ""));
    Bench.feedText(x, "bcdefghijklmnopqrst!");
    bench.due("all but the last", x.slip(39, 100), 39);
    Bench.feedText(x, "bcdefghijklmnopqrst!");
    bench.due("behind an emptied tape they stand first", x.slip(20, 100), -1019);
  }

  @Says(promise = 3, words = "the highest of each int first")
  static void promise03_theHighestByteFirst(Bench bench) {
    for (int place = 0; place < 20; place++) {
      int[] word = {0x61626364, 0x65666768, 0x696a6b6c, 0x6d6e6f70, 0x71727374};
      int shift = 24 - 8 * (place % 4);
      word[place / 4] = word[place / 4] & ~(255 << shift) | '!' << shift;
      BureauCrown x = new BureauCrown();
      x.feed(word[0], word[1], word[2], word[3], word[4]);
      bench.due("the fault at " + place, x.slip(20, 100), -1000 - place);
    }
    BureauCrown x = new BureauCrown();
    x.feed(0x80ff007f, -1, 0, 0, 0);
    bench.due("0, 127, 128, 255 are in order without a sign", x.dusted(4), 2);
    x.feed(0x007f80ff, -1, 0, 0, 0);
    bench.due("0, 127, 128, 255, 255 are in order", x.dusted(8), 0);
  }

  @Says(promise = 3, words = "how many it has")
  static void promise03_howManyItHas(Bench bench) {
    BureauCrown x = new BureauCrown();
    for (int k = 1; k <= 13; k++) {
      bench.due("feed " + k, x.feed(k, 0, 0, 0, 0), 20 * k);
      bench.due("count(6)", x.count(6), 20 * k);
    }
  }

  @Says(promise = 3, words = "NONE if that would be more than 260")
  static void promise03_noneBeyond260(Bench bench) {
    BureauCrown x = new BureauCrown();
    Bench.feedText(x, "(" + Bench.times(259, "a", ""));
    bench.due("the tape is full", x.count(6), 260);
    bench.due("a 14th feed", x.feed(-1, -1, -1, -1, -1), -1);
    bench.due("a 15th feed", x.feed(0, 0, 0, 0, 0), -1);
    bench.due("the tape stays as long", x.count(6), 260);
    bench.due("the tape stays as it was", x.slip(60, 100), -1060);
    bench.due("a feed of the emptied tape", x.feed(0, 0, 0, 0, 0), 20);
  }

  // ---- promise 5

  private static void fault(Bench bench, String text, int due) {
    BureauCrown x = Bench.with("b7;C3>b");
    bench.due("cabinet \"" + text + "\"", Bench.cabinet(x, text), due);
  }

  @Says(promise = 5, words = "A CABINET by the first n bytes of the tape (1 to 160;")
  static void promise05_byTheFirstNBytes(Bench bench) {
    BureauCrown x = Bench.fed("a9;b8;c7;!!");
    bench.due("cabinet(5)", x.cabinet(5), 2);
    bench.due("two DRAWERS", x.count(1), 3);
    x = Bench.fed("a9;b8");
    bench.due("n 1", x.cabinet(1), -1001);
    x = Bench.fed("a98;b8");
    bench.due("the text may end inside of a number", x.cabinet(2), 1);
    bench.due("ROOM", x.drawerIs(0, 0), 9);
  }

  @Says(promise = 5, words = "A CABINET: a TEXT of at most 160 bytes")
  static void promise05_atMost160Bytes(Bench bench) {
    String papers = Bench.times(24, "A1>a", ";");
    String bytes160 = "a99;b10;c10;d10;e10;f1;g1;h1;i1;j1;k1;l1;" + papers;
    BureauCrown x = new BureauCrown();
    bench.due("bytes", bytes160.length(), 160);
    bench.due("cabinet of 160", Bench.cabinet(x, bytes160), 36);
    bench.due("FULL", x.drawerIs(0, 1), 24);
    String bytes161 = "a99;b10;c10;d10;e10;f10;g1;h1;i1;j1;k1;l1;" + papers;
    bench.due("cabinet of 161", Bench.cabinet(x, bytes161), -1);
    bench.due("the tape stays", x.count(6), 180);
    bench.due("the one before stays", x.drawerIs(5, 0), 1);
  }

  @Says(promise = 5, words = "empty then")
  static void promise05_emptyThen(Bench bench) {
    BureauCrown x = Bench.fed("a9;b8                          ");
    bench.due("cabinet(5)", x.cabinet(5), 2);
    bench.due("tape", x.count(6), 0);
    Bench.feedText(x, "a9;b8;                         ");
    bench.due("a FAULT", x.cabinet(6), -1006);
    bench.due("tape behind a FAULT", x.count(6), 0);
  }

  @Says(promise = 5, words = "how many LINES")
  static void promise05_howManyLines(Bench bench) {
    fault(bench, "a1", 1);
    fault(bench, "A1", 1);
    fault(bench, "a1;A1", 2);
    fault(bench, "A1;b2;A1;c3", 4);
  }

  @Says(promise = 5, words = "a FAULT (all stays)")
  static void promise05_behindAFaultAllStays(Bench bench) {
    String[] faulty = {"a5;A3>a;!", "a123", "l5;a0", PAPERS_24 + ";B", "a5;a6", "A3>a", "a5;A6>a"};
    for (String text : faulty) {
      BureauCrown x = Bench.with("b9;c9;A4>b;B2", "e1(p=1);r10(p=0);x(d=2)");
      x.days(2);
      String before = Bench.look(x);
      bench.due("a FAULT of \"" + text + "\"", Bench.cabinet(x, text) <= -1000, true);
      bench.due("all behind \"" + text + "\"", Bench.look(x), before);
    }
    BureauCrown x = new BureauCrown();
    Bench.cabinet(x, "a5;b5;A1>a;!");
    bench.due("still no CABINET", x.count(1) + x.count(2) + x.count(8), 0);
  }

  @Says(promise = 5, words = "NONE: as above")
  static void promise05_noneAsAbove(Bench bench) {
    BureauCrown x = new BureauCrown();
    bench.due("of an empty tape", x.cabinet(1), -1);
    Bench.feedText(x, "a9;b8;c7;d6;e5;f4;g3");
    int[] none = {0, -1, 21, 160, 161, Integer.MAX_VALUE, Integer.MIN_VALUE};
    for (int n : none) {
      bench.due("cabinet(" + n + ") of 20 bytes", x.cabinet(n), -1);
      bench.due("the tape stays", x.count(6), 20);
    }
    bench.due("cabinet(20)", x.cabinet(20), 7);
  }

  @Says(promise = 5, words = "ROOM (1 to 99)")
  static void promise05_room1To99(Bench bench) {
    bench.due("ROOM 1", Bench.with("a1").drawerIs(0, 0), 1);
    bench.due("ROOM 01", Bench.with("a01").drawerIs(0, 0), 1);
    bench.due("ROOM 10", Bench.with("a10").drawerIs(0, 0), 10);
    bench.due("ROOM 99", Bench.with("a99").drawerIs(0, 0), 99);
    fault(bench, "a0", -3001);
    fault(bench, "a100", -2003);
  }

  @Says(promise = 5, words = "at most 160 bytes, no blanks")
  static void promise05_noBlanks(Bench bench) {
    fault(bench, " a5", -1000);
    fault(bench, "a 5", -1001);
    fault(bench, "a5 ", -1002);
    fault(bench, "a1 5", -1002);
    fault(bench, "a5 ;A1", -1002);
    fault(bench, "a5; A1", -1003);
    fault(bench, "a5;A 1", -1004);
    fault(bench, "a5;A1 ", -1005);
    fault(bench, "a5;A1 >a", -1005);
    fault(bench, "a5;A1> a", -1006);
  }

  @Says(promise = 5, words = "LINES with a ; (59) between two")
  static void promise05_linesWithASemicolonBetween(Bench bench) {
    fault(bench, "a5;b5", 2);
    fault(bench, "a5:b5", -1002);
    fault(bench, "a5<b5", -1002);
    fault(bench, "a5,b5", -1002);
    fault(bench, "a5b5", -1002);
    fault(bench, "A5B5", -1002);
    fault(bench, "a5;A5>aB5", -1007);
    fault(bench, ";a5", -1000);
    fault(bench, "a5;;b5", -1003);
    fault(bench, "a5;", -1003);
  }

  @Says(promise = 5, words = "(36 at most)")
  static void promise05_36LinesAtMost(Bench bench) {
    fault(bench, DRAWERS_12 + ";" + PAPERS_24, 36);
    fault(bench, PAPERS_24 + ";" + DRAWERS_12, 36);
    fault(bench, DRAWERS_12 + ";" + PAPERS_24 + ";A1", -4108);
  }

  @Says(promise = 5, words = "a letter a to l, a number of one or two digits (ROOM: it is told)")
  static void promise05_aDrawerIsTold(Bench bench) {
    fault(bench, "`5", -1000);
    fault(bench, "m5", -1000);
    fault(bench, "z5", -1000);
    fault(bench, "a/", -1001);
    fault(bench, "a:", -1001);
    fault(bench, "a5/", -1002);
    fault(bench, "a5:", -1002);
    fault(bench, "a-5", -1001);
    fault(bench, "ab", -1001);
    for (int d = 0; d < 12; d++) {
      BureauCrown x = Bench.with((char) ('a' + d) + "4" + d % 10);
      bench.due("told", x.count(1), 1 << d);
      bench.due("ROOM", x.drawerIs(d, 0), 40 + d % 10);
    }
    bench.due("ROOM of one digit", Bench.with("c7;A1").drawerIs(2, 0), 7);
    bench.due("ROOM of two digits", Bench.with("c90;A1").drawerIs(2, 0), 90);
  }

  @Says(promise = 5, words = "or a letter A to P, a digit 1 to 9 (SIZE of a PAPER)")
  static void promise05_aPaper(Bench bench) {
    fault(bench, "@5", -1000);
    fault(bench, "Q5", -1000);
    fault(bench, "A0", -1001);
    fault(bench, "A/", -1001);
    fault(bench, "A:", -1001);
    fault(bench, "A>a", -1001);
    fault(bench, "A", -1001);
    fault(bench, "A10", -1002);
    for (int k = 0; k < 16; k++) {
      BureauCrown x = Bench.with("" + (char) ('A' + k) + (k % 9 + 1));
      bench.due("SUBJECT", x.paperIs(0, 0), k);
      bench.due("SIZE", x.paperIs(0, 1), k % 9 + 1);
    }
  }

  @Says(promise = 5, words = "then perhaps > (62) and a letter a to l (IN that DRAWER)")
  static void promise05_aPaperInADrawer(Bench bench) {
    BureauCrown x = Bench.with("a9;l9;A5>a;B4>l;C3");
    bench.due("IN the first", x.paperIs(0, 2), 0);
    bench.due("IN the last", x.paperIs(1, 2), 11);
    bench.due("without a >", x.paperIs(2, 2), -2);
    fault(bench, "a9;A5=a", -1005);
    fault(bench, "a9;A5?a", -1005);
    fault(bench, "a9;A5a", -1005);
    fault(bench, "a9;A5>`", -1006);
    fault(bench, "a9;A5>m", -1006);
    fault(bench, "a9;A5>A", -1006);
    fault(bench, "a9;A5>", -1006);
    fault(bench, "a9;A5>;", -1006);
    fault(bench, "a9>a", -1002);
  }

  @Says(promise = 5, words = "FAULTS, the first from the left: 1 what can't stand there (the end, too); 2 a third digit")
  static void promise05_theFirstFaultFromTheLeft(Bench bench) {
    fault(bench, "m;a0", -1000);
    fault(bench, "a0;m", -3001);
    fault(bench, "a123;a0", -2003);
    fault(bench, "A1>b;A0", -7003);
    fault(bench, "a5;A9>a;a5", -8006);
    fault(bench, "a5;a5;A9>a", -6003);
    fault(bench, PAPERS_24 + ";A1;a0", -4072);
    fault(bench, "a0;" + PAPERS_24 + ";A1", -3001);
  }

  @Says(promise = 5, words = "1 what can't stand there (the end, too)")
  static void promise05_fault1TheEndToo(Bench bench) {
    fault(bench, "a", -1001);
    fault(bench, "A", -1001);
    fault(bench, "A1>", -1003);
    fault(bench, "A1;", -1003);
    BureauCrown x = new BureauCrown();
    for (int sign = 0; sign < 256; sign++) {
      boolean stands = sign >= 'a' && sign <= 'l' || sign >= 'A' && sign <= 'P';
      Bench.feedBytes(x, sign, '5');
      bench.due("the sign " + sign + " and 5", x.cabinet(2), stands ? 1 : -1000);
    }
  }

  @Says(promise = 5, words = "2 a third digit, at it")
  static void promise05_fault2AThirdDigit(Bench bench) {
    fault(bench, "a123", -2003);
    fault(bench, "a990", -2003);
    fault(bench, "a1234", -2003);
    fault(bench, "a5;b001", -2006);
    fault(bench, "a000", -2003);
  }

  @Says(promise = 5, words = "3 a ROOM of 0, at its first digit")
  static void promise05_fault3ARoomOf0(Bench bench) {
    fault(bench, "a0", -3001);
    fault(bench, "a00", -3001);
    fault(bench, "a0;b5", -3001);
    fault(bench, "a5;b00;c5", -3004);
    fault(bench, "a10", 1);
  }

  @Says(promise = 5, words = "(asked when it ends)")
  static void promise05_aRoomOf0IsAskedWhenItEnds(Bench bench) {
    fault(bench, "a0!", -3001);
    fault(bench, "a00!", -3001);
    fault(bench, "a000", -2003);
    fault(bench, "a01", 1);
    fault(bench, "a09;b1", 2);
  }

  @Says(promise = 5, words = "4 a 37th LINE")
  static void promise05_fault4A37thLine(Bench bench) {
    fault(bench, PAPERS_24 + ";" + DRAWERS_12 + ";a", -4108);
    fault(bench, PAPERS_24 + ";" + DRAWERS_12 + ";l1", -4108);
    fault(bench, DRAWERS_12 + ";" + PAPERS_24 + ";A", -4108);
  }

  @Says(promise = 5, words = "a 25th PAPER, at its letter")
  static void promise05_fault4A25thPaper(Bench bench) {
    fault(bench, PAPERS_24, 24);
    fault(bench, PAPERS_24 + ";B", -4072);
    fault(bench, PAPERS_24 + ";B1", -4072);
    fault(bench, PAPERS_24 + ";a1;B1", -4075);
    fault(bench, PAPERS_24 + ";a1;b1", 26);
  }

  @Says(promise = 5, words = "4 a 37th LINE, a 25th PAPER, at its letter (if that can stand there)")
  static void promise05_fault4OnlyIfTheLetterCanStandThere(Bench bench) {
    fault(bench, PAPERS_24 + ";Q", -1072);
    fault(bench, PAPERS_24 + ";", -1072);
    fault(bench, PAPERS_24 + ";" + DRAWERS_12 + ";m", -1108);
    fault(bench, PAPERS_24 + ";" + DRAWERS_12 + ";", -1108);
    fault(bench, PAPERS_24 + ";" + DRAWERS_12 + ";;", -1108);
    fault(bench, PAPERS_24 + ";" + DRAWERS_12 + "!", -1107);
  }

  @Says(promise = 5, words = "6 a DRAWER told twice, at its letter")
  static void promise05_fault6ToldTwice(Bench bench) {
    fault(bench, "a5;a5", -6003);
    fault(bench, "a5;a", -6003);
    fault(bench, "a5;a0", -6003);
    fault(bench, "a5;b5;A1;b5", -6009);
    fault(bench, "l1;l1", -6003);
    // That the one before told it is no matter.
    fault(bench, "b5", 1);
  }

  @Says(promise = 5, words = "6 a DRAWER told twice, at its letter (behind 4)")
  static void promise05_fault6StandsBehind4(Bench bench) {
    fault(bench, DRAWERS_12 + ";a1", -6036);
    fault(bench, DRAWERS_12 + ";" + PAPERS_24 + ";a1", -4108);
  }

  @Says(promise = 5, words = "7 a DRAWER that is not told (by LINES ahead), at its letter")
  static void promise05_fault7NotTold(Bench bench) {
    fault(bench, "A1>a", -7003);
    fault(bench, "A1>a;a5", -7003);
    fault(bench, "a5;A1>b;b5", -7006);
    fault(bench, "A1>b", -7003);
    fault(bench, "a5;A1>a", 2);
  }

  @Says(promise = 5, words = "8 a PAPER for which there is no ROOM any more, at the letter")
  static void promise05_fault8NoRoomAnyMore(Bench bench) {
    fault(bench, "a5;A5>a", 2);
    fault(bench, "a5;A6>a", -8006);
    fault(bench, "a5;A3>a;B2>a", 3);
    fault(bench, "a5;A3>a;B3>a", -8011);
    fault(bench, "a5;A3>a;B2>a;C1>a", -8016);
    // One that is OUT takes up no ROOM.
    fault(bench, "a5;A5;B5>a", 3);
    fault(bench, "a9;b9;A9>a;B9>b", 4);
  }

  @Says(promise = 5, words = "8 a PAPER for which there is no ROOM any more, at the letter (behind 7)")
  static void promise05_fault8StandsBehind7(Bench bench) {
    fault(bench, "a5;A9>b", -7006);
    fault(bench, "a5;A5>a;B9>b", -7011);
  }

  @Says(promise = 5, words = "In place of all ahead: DAYS 0, nothing READ.")
  static void promise05_inPlaceOfAllAhead(Bench bench) {
    BureauCrown x = Bench.with("a9;b9;A1>a;B2;C3", "e1(1=1);r10(1=1)");
    x.days(3);
    bench.due("READ ahead of it", x.count(4), 7);
    x.seed(4711);
    bench.due("another", Bench.cabinet(x, "b8;c7;D2>c;E4"), 4);
    bench.due("told DRAWERS", x.count(1), 6);
    bench.due("ROOM", x.drawerIs(1, 0), 8);
    bench.due("PAPERS", x.count(2), 2);
    bench.due("FULL of b", x.drawerIs(1, 1), 0);
    bench.due("FULL of c", x.drawerIs(2, 1), 2);
    bench.due("PAPERS IN c", x.drawerIs(2, 2), 1);
    bench.due("nothing READ", x.count(4), 0);
    bench.due("DAYS of one IN", x.paperIs(0, 4), 0);
    bench.due("DAYS of one OUT", x.paperIs(1, 4), 0);
    bench.due("SUBJECT", x.paperIs(0, 0), 3);
    bench.due("THE DAY is not of it", x.count(0), 3);
    bench.due("X is not of it", x.count(7), 4711);
    bench.due("THE LAW is not of it", x.count(5), 2);
    x.days(1);
    bench.due("days go on in it", x.count(4), 3);
  }

  @Says(promise = 5, words = "In place of all ahead: DAYS 0, nothing READ.")
  static void promise05_nothingIsLeftOfThoseAhead(Bench bench) {
    BureauCrown x = new BureauCrown();
    for (int k = 0; k < 6; k++) {
      bench.due("cabinet " + k, Bench.cabinet(x, k % 3 == 0 ? "a9;b9;A1>a;B2>a;C3>b" : "b9;a9;A1>b;B2;C3>a"), 5);
      bench.due("nothing READ in " + k, x.count(4), 0);
      bench.due("DAYS of 0 in " + k, x.paperIs(0, 4), 0);
      bench.due("DAYS of 1 in " + k, x.paperIs(1, 4), 0);
      bench.due("DAYS of 2 in " + k, x.paperIs(2, 4), 0);
      bench.due("FULL of a in " + k, x.drawerIs(0, 1), 3);
      // How many PAPERS lie where is seen by the n of a law.
      Bench.rule(x, "r10(d=0&n=2)");
      bench.due("n of a is 2 in " + k, x.tried(1, 3), k % 3 == 0 ? 3 : 0);
      Bench.rule(x, "r10(d=1&n=1)");
      bench.due("n of b is 1 in " + k, x.tried(1, 3), k % 3 == 0 ? 4 : 1);
      Bench.rule(x, "e1(1=1);r10(1=1)");
      x.days(3);
      bench.due("a FAULT", Bench.cabinet(x, "a9;b9;c9;A1>a;B1>a;C1>b;D1>c;!"), -1029);
    }
    for (int k = 0; k < 4; k++) {
      Bench.cabinet(x, "a9;A1>a;B2");
      bench.due("nothing READ behind others", x.count(4), 0);
      bench.due("DAYS of one IN", x.paperIs(0, 4), 0);
      bench.due("DAYS of one OUT", x.paperIs(1, 4), 0);
      x.days(3);
    }
  }
}
