/** Promises 6, 7 and 10: what the law says, days that go by, days that are tried, when all is shut. */
final class DaySentences {
  private static final int LAST_DAY = 9999;

  /** Whether a C holds for the one PAPER that is OUT. */
  private static void holds(Bench bench, String test, boolean due) {
    BureauCrown x = Bench.with("a9;A1", "e1(" + test + ")");
    bench.due("(" + test + ")", x.tried(1, 0), due ? 1 : 0);
  }

  /** What an E is; a number below 0 is asked as what 0 less it would be. */
  private static void worth(Bench bench, String expression, int due) {
    holds(bench, expression + "=" + (due < 0 ? "0" + due : due), true);
  }

  /** The PAPERS (bits) that an e with this C leaves OUT. */
  private static void leavesOut(Bench bench, BureauCrown x, String test, int due) {
    Bench.rule(x, "e1(" + test + ")");
    bench.due("OUT behind e1(" + test + ")", x.tried(1, 2), due);
  }

  /** The PAPERS (bits) that are READ by an r with this C. */
  private static void reads(Bench bench, BureauCrown x, String test, int due) {
    Bench.rule(x, "r10(" + test + ")");
    bench.due("READ by r10(" + test + ")", x.tried(1, 3), due);
  }

  /** Where the last PAPER is put if DRAWERS stick by this C. */
  private static void sticks(Bench bench, BureauCrown x, String test, int due) {
    Bench.rule(x, "e1(1=1);x(" + test + ")");
    bench.due("where it is by x(" + test + ")", x.tried(1, 29 + x.count(2)), due);
  }

  private static void go(BureauCrown x, int days) {
    for (int left = days; left > 0; left -= 100) {
      x.days(Math.min(left, 100));
    }
  }

  /** By a law that puts none IN and lets none be READ. */
  private static void goWithoutALaw(BureauCrown x, int days) {
    Bench.rule(x, "r0(1=1)");
    go(x, days);
  }

  // ---- what THE LAW says

  @Says(promise = 6, words = "e how a PAPER would be put IN a DRAWER (0 to 9999; none: 0)")
  static void promise06_e0To9999(Bench bench) {
    BureauCrown x = Bench.with("a9;b9;A1", "e9998(d=0);e9999(d=1)");
    bench.due("9999 is more than 9998", x.tried(1, 30), 1);
    Bench.rule(x, "e9999(d=0);e10000(d=1)");
    bench.due("10000 is no more than 9999", x.tried(1, 30), 0);
    Bench.rule(x, "e1(d=1)");
    bench.due("1 is more than none", x.tried(1, 30), 1);
    Bench.rule(x, "e0(d=0)");
    bench.due("0 puts none IN", x.tried(100, 0), 0);
    Bench.rule(x, "e5(1=2);r10(1=1)");
    bench.due("none that holds puts none IN", x.tried(100, 0), 0);
  }

  @Says(promise = 6, words = "r tenths that one that is IN is READ on a DAY (0 to 10; none: 0)")
  static void promise06_r0To10(Bench bench) {
    // The first DRAWS from 1 are 2 7 6 5 2 9 6 7 2 9; the DRAWER takes the 1st, the PAPER the 2nd.
    BureauCrown x = Bench.with("a9;A1>a", "r7(1=1)");
    bench.due("7 is not below 7", x.tried(1, 1), 0);
    Bench.rule(x, "r8(1=1)");
    bench.due("7 is below 8", x.tried(1, 1), 1);
    Bench.rule(x, "r0(1=1)");
    bench.due("0: never", x.tried(100, 1), 0);
    Bench.rule(x, "e1(1=1);r10(1=2)");
    bench.due("none: never", x.tried(100, 1), 0);
    // 9 is the highest DRAW there is, and 10 tenths are above it.
    x.seed(seedWithSecondDraw(9));
    Bench.rule(x, "r10(1=1)");
    bench.due("10: at once", x.tried(1, 1), 1);
    Bench.rule(x, "r9(1=1)");
    bench.due("9 is not below 9", x.tried(1, 1), 0);
    x.seed(seedWithSecondDraw(0));
    Bench.rule(x, "r1(1=1)");
    bench.due("0 is below 1", x.tried(1, 1), 1);
    Bench.rule(x, "r0(1=1)");
    bench.due("0 is not below 0", x.tried(1, 1), 0);
  }

  private static int seedWithSecondDraw(int draw) {
    for (int seed = 0; seed < 65536; seed++) {
      if (Bench.drawn(seed, 2) % 10 == draw) {
        return seed;
      }
    }
    throw new IllegalStateException("no seed for " + draw);
  }

  @Says(promise = 6, words = "x a DRAWER sticks on a DAY: nothing is put IN")
  static void promise06_aDrawerThatSticks(Bench bench) {
    BureauCrown x = Bench.with("a9;b9;A1;B1>a", "e1(1=1);x(d=0)");
    bench.due("put IN the other", x.tried(1, 30), 1);
    bench.due("one that is IN it stays", x.tried(1, 31), 0);
    Bench.rule(x, "e1(1=1);x(1=1)");
    bench.due("all stick", x.tried(1, 0), 0);
    Bench.rule(x, "e1(1=1);x(t=0)");
    bench.due("on that DAY alone: the first", x.tried(1, 0), 0);
    bench.due("on that DAY alone: the second", x.tried(2, 0), 1);
    Bench.rule(x, "x(1=1);r10(1=1)");
    bench.due("one IN one that sticks is READ", x.tried(1, 3), 2);
  }

  @Says(promise = 6, words = "(any will do; without an x in THE LAW none does)")
  static void promise06_anyXWillDo(Bench bench) {
    BureauCrown x = Bench.with("a9;b9;c9;A1", "e1(1=1)");
    bench.due("without an x", x.tried(1, 30), 0);
    Bench.rule(x, "x(d=0);e1(1=1);x(d=1)");
    bench.due("the first x or the second", x.tried(1, 30), 2);
    Bench.rule(x, "x(1=2);x(d=0);e1(1=1)");
    bench.due("the second x alone", x.tried(1, 30), 1);
    Bench.rule(x, "x(d=0);x(1=2);e1(1=1)");
    bench.due("the first x alone", x.tried(1, 30), 1);
  }

  @Says(promise = 6, words = "of the first RULE of e, r whose C holds the E")
  static void promise06_theFirstRuleWhoseCHolds(Bench bench) {
    BureauCrown x = Bench.with("a9;b9;A1;B1>a", "e5(d=0);e9(1=1)");
    bench.due("e: 5 for a, 9 for b", x.tried(1, 30), 1);
    Bench.rule(x, "e9(d=0);e5(1=1)");
    bench.due("e: 9 for a, 5 for b", x.tried(1, 30), 0);
    Bench.rule(x, "e0(1=1);e5(1=1)");
    bench.due("e: the first holds with 0", x.tried(1, 0), 0);
    Bench.rule(x, "e0(1=2);e5(1=1)");
    bench.due("e: the first does not hold", x.tried(1, 0), 1);
    Bench.rule(x, "r10(1=1);e0(1=1);x(1=2);e5(1=1)");
    bench.due("e: those of others are passed over", x.tried(1, 0), 0);
    Bench.rule(x, "r0(1=1);r10(1=1)");
    bench.due("r: the first holds with 0", x.tried(1, 1), 0);
    Bench.rule(x, "r0(p=0);r10(1=1)");
    bench.due("r: the first does not hold", x.tried(1, 3), 2);
    Bench.rule(x, "e5(1=1);r10(1=1)");
    bench.due("r: an e ahead is no r", x.tried(1, 3), 3);
  }

  @Says(promise = 6, words = "(beyond its bounds the bound)")
  static void promise06_beyondItsBoundsTheBound(Bench bench) {
    BureauCrown x = Bench.with("a9;b9;A1;B1>b", "e9999(d=0);e99999(d=1)");
    bench.due("e above its bound is alike: the lowest", x.tried(1, 30), 0);
    Bench.rule(x, "e10000(d=0);e99999*2(d=1)");
    bench.due("both above it are alike: the lowest", x.tried(1, 30), 0);
    Bench.rule(x, "e0-1(1=1);e5(1=1)");
    bench.due("e below 0 is 0", x.tried(1, 0), 0);
    Bench.rule(x, "e65536*32768(1=1)");
    bench.due("the least e is 0", x.tried(1, 0), 0);
    Bench.rule(x, "r11(1=1)");
    bench.due("r above its bound is 10", x.tried(1, 1), 1);
    Bench.rule(x, "r99999(1=1)");
    bench.due("r far above its bound is 10", x.tried(1, 1), 1);
    Bench.rule(x, "r0-1(1=1)");
    bench.due("r below 0 is 0", x.tried(100, 1), 0);
  }

  @Says(promise = 6, words = "C: PARTS with a | between two, one of which must hold")
  static void promise06_oneOfThePartsMustHold(Bench bench) {
    holds(bench, "1=2|1=2", false);
    holds(bench, "1=1|1=2", true);
    holds(bench, "1=2|1=1", true);
    holds(bench, "1=1|1=1", true);
    holds(bench, "1=2|1=2|1=1", true);
    holds(bench, "1=2|1=2|1=2", false);
    holds(bench, "1=1&1=2|1=1", true);
    holds(bench, "1=1|1=1&1=2", true);
    holds(bench, "1=2&1=1|1=1&1=2", false);
    // As many as 240 bytes hold.
    holds(bench, Bench.times(58, "1=2", "|") + "|1=1", true);
    holds(bench, Bench.times(59, "1=2", "|"), false);
  }

  @Says(promise = 6, words = "a PART: TESTS with an & between two, all of which must")
  static void promise06_allTestsOfAPartMustHold(Bench bench) {
    holds(bench, "1=1&1=1", true);
    holds(bench, "1=1&1=2", false);
    holds(bench, "1=2&1=1", false);
    holds(bench, "1=1&1=1&1=2", false);
    holds(bench, "1=1&1=1&1=1", true);
    holds(bench, "(1=1|1=1)&1=2", false);
    holds(bench, "(1=2|1=1)&(1=1|1=2)", true);
    // As many as 240 bytes hold.
    holds(bench, Bench.times(59, "1=1", "&"), true);
    holds(bench, Bench.times(58, "1=1", "&") + "&1=2", false);
  }

  @Says(promise = 6, words = "a TEST: !TEST, (C), or E, one of < > =, and E.")
  static void promise06_aTestIsAsked(Bench bench) {
    holds(bench, "1<2", true);
    holds(bench, "2<2", false);
    holds(bench, "3<2", false);
    holds(bench, "3>2", true);
    holds(bench, "2>2", false);
    holds(bench, "1>2", false);
    holds(bench, "2=2", true);
    holds(bench, "2=3", false);
    holds(bench, "0-1<0", true);
    holds(bench, "65536*32768<65535*32767", true);
    holds(bench, "!1=1", false);
    holds(bench, "!1=2", true);
    holds(bench, "!!1=1", true);
    holds(bench, "!1=2&1=2", false);
    holds(bench, "!1=1|1=1", true);
    holds(bench, "!(1=2&1=2)", true);
    holds(bench, "((1=1))", true);
  }

  @Says(promise = 6, words = "from the left on")
  static void promise06_fromTheLeftOn(Bench bench) {
    worth(bench, "10-4-3", 3);
    worth(bench, "10-4+3", 9);
    worth(bench, "100/7/2", 7);
    worth(bench, "100%7*3", 6);
    worth(bench, "100/7*7", 98);
    worth(bench, "2*7%4", 2);
    worth(bench, "17%10%4", 3);
    worth(bench, "2+3*4", 14);
    worth(bench, "2*3+4", 10);
    worth(bench, "20-6/2", 17);
    worth(bench, "20-7%4", 17);
    worth(bench, "[2+3]*4", 20);
    worth(bench, "10-[4-3]", 9);
    worth(bench, "100/[7/2]", 33);
    worth(bench, "7/1", 7);
    worth(bench, "7%1", 0);
    worth(bench, "1*7", 7);
    worth(bench, "0/7", 0);
    worth(bench, "0%7", 0);
    // As many as 240 bytes hold, and as deep as they may be.
    worth(bench, Bench.times(116, "1", "+"), 116);
    worth(bench, "1+1*[1+1*[1+1*[1+1*[1+1*[1+1*1]]]]]", 7);
  }

  @Says(promise = 6, words = "a number of one to five digits")
  static void promise06_numbers(Bench bench) {
    worth(bench, "0", 0);
    worth(bench, "00012", 12);
    worth(bench, "12-2", 10);
    worth(bench, "99999/100", 999);
    worth(bench, "99999-99990", 9);
  }

  @Says(promise = 6, words = "p the PAPER (in x 24)")
  static void promise06_letterP(Bench bench) {
    BureauCrown x = Bench.with("a99;" + Bench.times(24, "A1", ";"));
    leavesOut(bench, x, "p=0", 0xfffffe);
    leavesOut(bench, x, "p=23", 0x7fffff);
    leavesOut(bench, x, "p>23", 0xffffff);
    x = Bench.with("a9;A1>a;A1>a;A1");
    reads(bench, x, "p=1", 2);
    sticks(bench, x, "p=24", -2);
    sticks(bench, x, "!p=24", 0);
  }

  @Says(promise = 6, words = "s SUBJECT (in x 16)")
  static void promise06_letterS(Bench bench) {
    BureauCrown x = Bench.with("a99;A1;P1;C1");
    leavesOut(bench, x, "s=0", 6);
    leavesOut(bench, x, "s=15", 5);
    x = Bench.with("a9;A1>a;P1>a;C1");
    reads(bench, x, "s=15", 2);
    sticks(bench, x, "s=16", -2);
    sticks(bench, x, "!s=16", 0);
  }

  @Says(promise = 6, words = "z SIZE (in x 0)")
  static void promise06_letterZ(Bench bench) {
    BureauCrown x = Bench.with("a99;A1;B9;C5");
    leavesOut(bench, x, "z=1", 6);
    leavesOut(bench, x, "z=9", 5);
    x = Bench.with("a19;A1>a;B9>a;C5");
    reads(bench, x, "z=9", 2);
    sticks(bench, x, "z=0", -2);
    sticks(bench, x, "!z=0", 0);
  }

  @Says(promise = 6, words = "d the DRAWER")
  static void promise06_letterD(Bench bench) {
    BureauCrown x = Bench.with("a9;l9;A1");
    Bench.rule(x, "e1(d=11)");
    bench.due("e1(d=11)", x.tried(1, 30), 11);
    Bench.rule(x, "e1(d=0)");
    bench.due("e1(d=0)", x.tried(1, 30), 0);
    x = Bench.with("a9;l9;A1>a;B1>l;C1");
    reads(bench, x, "d=0", 1);
    reads(bench, x, "d=11", 2);
    sticks(bench, x, "d=0", 11);
    sticks(bench, x, "d=11", 0);
  }

  @Says(promise = 6, words = "f ROOM of it that is free")
  static void promise06_letterF(Bench bench) {
    BureauCrown x = Bench.with("a9;b99;D4>a;A1");
    Bench.rule(x, "e1(f=5)");
    bench.due("e1(f=5)", x.tried(1, 31), 0);
    Bench.rule(x, "e1(f=99)");
    bench.due("e1(f=99)", x.tried(1, 31), 1);
    x = Bench.with("a9;b99;D9>a;C3>b;A1");
    reads(bench, x, "f=0", 1);
    reads(bench, x, "f=96", 2);
    sticks(bench, x, "f=96", -2);
    sticks(bench, x, "f=0", 1);
    x = Bench.with("a9;A4;B4;C1");
    leavesOut(bench, x, "f=9", 6);
    leavesOut(bench, x, "f=9|f=5", 4);
  }

  @Says(promise = 6, words = "n how many PAPERS are IN it")
  static void promise06_letterN(Bench bench) {
    BureauCrown x = Bench.with("a9;b9;D4>a;D3>a;A1");
    Bench.rule(x, "e1(n=2)");
    bench.due("e1(n=2)", x.tried(1, 32), 0);
    Bench.rule(x, "e1(n=0)");
    bench.due("e1(n=0)", x.tried(1, 32), 1);
    reads(bench, x, "n=2", 3);
    reads(bench, x, "n=1", 0);
    sticks(bench, x, "n=2", 1);
    sticks(bench, x, "n=0", 0);
    x = Bench.with("a9;A1;B1;C1");
    leavesOut(bench, x, "n<2", 4);
    // As PAPERS are taken OUT, put elsewhere and put back.
    x = Bench.with("a9;b9;A1>a;B1>a;C1>b");
    x.put(1, -1);
    reads(bench, x, "n=1", 5);
    x.put(1, 1);
    reads(bench, x, "d=1&n=2", 6);
    reads(bench, x, "d=0&n=1", 1);
    x.put(1, 1);
    reads(bench, x, "d=1&n=2", 6);
    x.keep();
    x.put(0, 1);
    x.put(2, -1);
    x.undo();
    reads(bench, x, "d=1&n=2", 6);
    reads(bench, x, "d=0&n=1", 1);
  }

  @Says(promise = 6, words = "a DAYS (in e, x 0)")
  static void promise06_letterA(Bench bench) {
    BureauCrown x = Bench.with("a9;A1>a;B1");
    go(x, 7);
    reads(bench, x, "a=7", 1);
    reads(bench, x, "a=8", 0);
    leavesOut(bench, x, "a=0", 0);
    leavesOut(bench, x, "!a=0", 2);
    sticks(bench, x, "a=0", -2);
    sticks(bench, x, "!a=0", 0);
    // One that is put IN on the day has none yet.
    Bench.rule(x, "e1(1=1);r10(a=0)");
    bench.due("READ with DAYS 0", x.tried(1, 3), 2);
  }

  @Says(promise = 6, words = "i READ (1, 0; in x 0)")
  static void promise06_letterI(Bench bench) {
    BureauCrown x = Bench.with("a9;A1>a;B1>a;C1", "r10(p=0)");
    x.days(1);
    bench.due("READ", x.count(4), 1);
    Bench.rule(x, "r10(i=0)");
    bench.due("by r10(i=0) the one that was not", x.tried(1, 1), 1);
    Bench.rule(x, "r10(i=1)");
    bench.due("by r10(i=1) none that was not", x.tried(5, 1), 0);
    Bench.rule(x, "e1(i=0);r10*i(1=1)");
    bench.due("an e asks of one that is OUT", x.tried(1, 0), 1);
    sticks(bench, x, "i=0", -2);
    sticks(bench, x, "!i=0", 0);
  }

  @Says(promise = 6, words = "t THE DAY modulo 100")
  static void promise06_letterT(Bench bench) {
    BureauCrown x = Bench.with("a9;A1>a;B1");
    leavesOut(bench, x, "t=0", 0);
    goWithoutALaw(x, 99);
    leavesOut(bench, x, "t=99", 0);
    reads(bench, x, "t=99", 1);
    sticks(bench, x, "t=99", -2);
    goWithoutALaw(x, 1);
    leavesOut(bench, x, "t=0", 0);
    leavesOut(bench, x, "t=100", 2);
    reads(bench, x, "t=0", 1);
    sticks(bench, x, "t=0", -2);
    goWithoutALaw(x, 142);
    leavesOut(bench, x, "t=42", 0);
  }

  @Says(promise = 6, words = "w the DRAW (in e 0)")
  static void promise06_letterW(Bench bench) {
    // The first DRAWS from 1 are 2 7 6 5: two for the DRAWERS, two for the PAPERS.
    BureauCrown x = Bench.with("a9;b9;A1>a;B1>b;C1");
    sticks(bench, x, "w=2", 1);
    sticks(bench, x, "w=7", 0);
    sticks(bench, x, "w=2|w=7", -2);
    reads(bench, x, "w=6", 1);
    reads(bench, x, "w=5", 2);
    leavesOut(bench, x, "w=0", 0);
    leavesOut(bench, x, "!w=0", 4);
  }

  @Says(promise = 6, words = "All is reckoned with 32 bits, as the machine does")
  static void promise06_32Bits(Bench bench) {
    worth(bench, "65536*65536", 0);
    worth(bench, "65536*65536+7", 7);
    // The largest is 65536 * 32768 - 1; one more is the least, which is below 0.
    holds(bench, "65536*32768-1>0", true);
    holds(bench, "65536*32768<0", true);
    holds(bench, "65536*32768-1+1=65536*32768", true);
    holds(bench, "0-65536*32768=65536*32768", true);
    holds(bench, "65536*32768/[0-1]=65536*32768", true);
    worth(bench, "65536*32768%[0-1]", 0);
    // 99999 * 99999 is 1409865409 then.
    worth(bench, "99999*99999%99999", 79507);
    worth(bench, "[0-7]/2", -3);
    worth(bench, "7/[0-2]", -3);
    worth(bench, "[0-7]%4", -3);
    worth(bench, "7%[0-4]", 3);
    worth(bench, "0-7%4", -3);
  }

  @Says(promise = 6, words = "what is divided by 0 is REFUSED: then the whole C of the RULE does not hold")
  static void promise06_dividedBy0TheWholeCDoesNotHold(Bench bench) {
    holds(bench, "1/0=0", false);
    holds(bench, "1%0=0", false);
    holds(bench, "0/0=0", false);
    holds(bench, "1=1/0", false);
    holds(bench, "!1/0=1", false);
    holds(bench, "!(1=1&!1/0=1)", false);
    holds(bench, "1/0=0|1=1", false);
    holds(bench, "(1/0=0)|1=1", false);
    holds(bench, "1/[1-1]=0|1=1", false);
    holds(bench, "0*[1/0]=0", false);
    BureauCrown x = Bench.with("a9;A1", "e5(1/0=0);e5(1=1)");
    bench.due("the next RULE is asked", x.tried(1, 0), 1);
    Bench.rule(x, "e5(1=1);x(1/0=0)");
    bench.due("no DRAWER sticks by it", x.tried(1, 0), 1);
    Bench.rule(x, "e5(1=1);x(1/0=0);x(1=1)");
    bench.due("but by the next x", x.tried(1, 0), 0);
    Bench.rule(x, "e5(1=1);r10(1%0=0);r10(t=1)");
    bench.due("none is READ by it, but by the next r", x.tried(1, 1) * 10 + x.tried(2, 1), 1);
  }

  @Says(promise = 6, words = "the E of it is 0")
  static void promise06_dividedBy0TheEIs0(Bench bench) {
    BureauCrown x = Bench.with("a9;b9;A1", "e9/0(1=1)");
    bench.due("e9/0", x.tried(100, 0), 0);
    Bench.rule(x, "e9%0(1=1)");
    bench.due("e9%0", x.tried(100, 0), 0);
    Bench.rule(x, "e5+9/[d-0](1=1);e1(1=1)");
    bench.due("0 for a, 14 for b", x.tried(1, 30), 1);
    Bench.rule(x, "e5+1/0(1=1);e5(1=1)");
    bench.due("the whole E is 0, no other RULE is asked", x.tried(100, 0), 0);
    Bench.rule(x, "e1(1=1);r10+1%0(1=1);r10(1=1)");
    bench.due("r", x.tried(100, 1), 0);
  }

  @Says(promise = 6, words = "Of a C as much is asked, from the left, as matters.")
  static void promise06_asMuchIsAskedAsMatters(Bench bench) {
    holds(bench, "1=1|1/0=0", true);
    holds(bench, "1=2|1/0=0", false);
    holds(bench, "1=2&1/0=0|1=1", true);
    holds(bench, "1=1&1/0=0|1=1", false);
    holds(bench, "1=1|1=1&1/0=0|1/0=0", true);
    holds(bench, "!(1=2&1/0=0)", true);
    holds(bench, "!(1=1|1/0=0)", false);
    holds(bench, "(1=1|1/0=0)&1=1", true);
    holds(bench, "(1=2&1/0=0)|1=1", true);
    holds(bench, "(1=1|1/0=0)&1/0=0", false);
    holds(bench, "1=2&1=1&1/0=0|1=1", true);
    // Of an E all is asked, and of a TEST both sides.
    holds(bench, "0*[1/0]=0|1=1", false);
    holds(bench, "1<0*1/0|1=1", false);
  }

  // ---- a DAY

  @Says(promise = 6, words = "A DAY: (1) each told DRAWER, by numbers, with a DRAW: does it stick (x)?")
  static void promise06_eachToldDrawerWithADraw(Bench bench) {
    // The first DRAWS from 1 are 2 7 6.
    BureauCrown x = Bench.with("f9;c9;k9;A1", "e1(1=1);x(w=2)");
    bench.due("the lowest told one has the first DRAW", x.tried(1, 30), 5);
    Bench.rule(x, "e1(1=1);x(w=7|w=2)");
    bench.due("the next told one the second", x.tried(1, 30), 10);
    Bench.rule(x, "e1(1=1);x(!w=6)");
    bench.due("the last told one the third", x.tried(1, 30), 10);
    x = Bench.with("f9;c9;k9");
    x.days(1);
    bench.due("X behind three DRAWERS", x.count(7), Bench.drawn(1, 3));
    x = new BureauCrown();
    x.days(1);
    bench.due("X behind no DRAWERS", x.count(7), 1);
    // All that stick are told ahead of what is put IN.
    x = Bench.with("a9;b9;A1;B1", "e1(1=1);x(n>0)");
    bench.due("none sticks by what is put IN on the DAY", x.tried(1, 2), 0);
  }

  @Says(promise = 6, words = "(2) Each PAPER that is OUT, by numbers, is put IN the DRAWER")
  static void promise06_eachPaperThatIsOutByNumbers(Bench bench) {
    BureauCrown x = Bench.with("a5;A3;B3;C2", "e1(1=1)");
    bench.due("days(1)", x.days(1), 2);
    bench.due("0 goes first", x.paperIs(0, 2), 0);
    bench.due("no ROOM for 1 then", x.paperIs(1, 2), -2);
    bench.due("ROOM for 2", x.paperIs(2, 2), 0);
    x = Bench.with("a9;b9;A3>a", "e1+d(1=1)");
    bench.due("one that is IN is not put elsewhere", x.tried(100, 30), 0);
    bench.due("and is not put IN anew", x.tried(100, 0), 0);
  }

  @Says(promise = 6, words = "that does not stick and has ROOM for it that it would be put IN most")
  static void promise06_thatItWouldBePutInMost(Bench bench) {
    BureauCrown x = Bench.with("a3;b4;c9;A4", "e10-d(1=1)");
    bench.due("a is too small, then b is most", x.tried(1, 30), 1);
    Bench.rule(x, "e1+d(1=1)");
    bench.due("c is most", x.tried(1, 30), 2);
    Bench.rule(x, "e1+d(1=1);x(d=2)");
    bench.due("c sticks", x.tried(1, 30), 1);
    Bench.rule(x, "e1+d(1=1);x(d>0)");
    bench.due("b and c stick, a is too small", x.tried(1, 30), -2);
    x = Bench.with("a4;A4;B1", "e1(1=1)");
    bench.due("ROOM to the last", x.tried(1, 10), 4);
    bench.due("none for another", x.tried(1, 31), -2);
  }

  @Says(promise = 6, words = "(e above 0; of like ones the lowest; as it is then)")
  static void promise06_eAbove0OfLikeOnesTheLowest(Bench bench) {
    BureauCrown x = Bench.with("b9;a9;c9;A1", "e5(1=1)");
    bench.due("of like ones the lowest", x.tried(1, 30), 0);
    Bench.rule(x, "e4(d=0);e5(1=1)");
    bench.due("of two like ones the lowest", x.tried(1, 30), 1);
    Bench.rule(x, "e0(1=1)");
    bench.due("0 is not above 0", x.tried(1, 30), -2);
    Bench.rule(x, "e0-d(1=1)");
    bench.due("below 0 is not", x.tried(1, 30), -2);
    Bench.rule(x, "e1(d=2)");
    bench.due("1 is", x.tried(1, 30), 2);
    x = Bench.with("a9;b9;A1;B1;C1", "e10-n(1=1)");
    x.days(1);
    bench.due("as it is then: 0", x.paperIs(0, 2), 0);
    bench.due("as it is then: 1", x.paperIs(1, 2), 1);
    bench.due("as it is then: 2", x.paperIs(2, 2), 0);
  }

  @Says(promise = 6, words = "(3) Each PAPER that is IN (READ or not), also since (2), by numbers, with a DRAW")
  static void promise06_eachPaperThatIsInWithADraw(Bench bench) {
    // The DRAWS from 1 are 2 7 6 5 2: the DRAWER has the first.
    BureauCrown x = Bench.with("a9;A1>a;B1;C1>a", "r10(w=7)");
    bench.due("0 has the second DRAW", x.tried(1, 3), 1);
    Bench.rule(x, "r10(w=6)");
    bench.due("2 has the third, 1 is OUT", x.tried(1, 3), 4);
    Bench.rule(x, "e1(1=1);r10(w=6)");
    bench.due("1, put IN since (2), has the third", x.tried(1, 3), 2);
    Bench.rule(x, "e1(1=1);r10(w=5)");
    bench.due("2 has the fourth then", x.tried(1, 3), 4);
    Bench.rule(x, "r10(1=1)");
    x.days(1);
    bench.due("X behind one DRAWER and two IN", x.count(7), Bench.drawn(1, 3));
    bench.due("both are READ", x.count(4), 5);
    x.days(1);
    bench.due("READ ones take a DRAW, too", x.count(7), Bench.drawn(1, 6));
    BureauCrown y = Bench.with("a9;A1>a;B1");
    y.days(1);
    bench.due("without a LAW, too", y.count(7), Bench.drawn(1, 2));
  }

  @Says(promise = 6, words = "below r (asked with the DRAW, as it is by then) it is READ (it stays so)")
  static void promise06_belowRItIsRead(Bench bench) {
    // The DRAW of 0 is 7, of 1 it is 6.
    BureauCrown x = Bench.with("a9;A1>a;B1>a", "r7(1=1)");
    bench.due("6 is below 7, 7 is not", x.tried(1, 3), 2);
    Bench.rule(x, "rw(1=1)");
    bench.due("no DRAW is below itself", x.tried(100, 1), 0);
    Bench.rule(x, "rw+1(1=1)");
    bench.due("each is below one more", x.tried(1, 3), 3);
    Bench.rule(x, "r10(a=0&n=2)");
    bench.due("as it is by then: DAYS are not yet one more", x.tried(1, 3), 3);
    x = Bench.with("a9;A1;B1", "e1(1=1);r10(n=2&f=7)");
    bench.due("as it is by then: behind (2)", x.tried(1, 3), 3);
    x = Bench.with("a9;A1>a", "r10(t=0)");
    x.days(1);
    bench.due("READ", x.paperIs(0, 3), 1);
    x.days(50);
    bench.due("it stays so", x.paperIs(0, 3), 1);
  }

  @Says(promise = 6, words = "DAYS are one more")
  static void promise06_daysAreOneMore(Bench bench) {
    BureauCrown x = Bench.with("a9;A1>a;B1;C1", "e1(p=1)");
    x.days(1);
    bench.due("of one IN", x.paperIs(0, 4), 1);
    bench.due("of one put IN on the DAY", x.paperIs(1, 4), 1);
    bench.due("of one OUT", x.paperIs(2, 4), 0);
    x.days(10);
    bench.due("ten DAYS on", x.paperIs(0, 4), 11);
    bench.due("of one OUT still", x.paperIs(2, 4), 0);
  }

  @Says(promise = 6, words = "THE DAY is one more (9999 at most: then none goes by)")
  static void promise06_theDayIs9999AtMost(Bench bench) {
    BureauCrown x = Bench.with("a9;A1>a;B1");
    x.days(1);
    bench.due("THE DAY", x.count(0), 1);
    go(x, LAST_DAY - 2);
    bench.due("THE DAY before the last", x.count(0), LAST_DAY - 1);
    int drawn = x.count(7);
    x.days(1);
    bench.due("the last", x.count(0), LAST_DAY);
    bench.due("X of the last", x.count(7), Bench.drawn(drawn, 2));
    bench.due("DAYS", x.paperIs(0, 4), LAST_DAY);
    Bench.rule(x, "e1(1=1);r10(1=1)");
    String before = Bench.look(x);
    bench.due("days(1) puts none IN", x.days(1), 0);
    bench.due("days(100) puts none IN", x.days(100), 0);
    bench.due("none went by", Bench.look(x), before);
    bench.due("tried(100, 0)", x.tried(100, 0), 0);
    bench.due("tried(100, 3)", x.tried(100, 3), 0);
    bench.due("shut(100)", x.shut(100), -2);
  }

  @Says(promise = 6, words = "DRAWS: X = (25173 X + 13849) modulo 65536 (X is THE SEED at first, 1): X modulo 10.")
  static void promise06_draws(Bench bench) {
    int[] due = {39022, 61087, 20196, 45005, 3882};
    BureauCrown x = Bench.with("a9");
    for (int k = 0; k < due.length; k++) {
      x.days(1);
      bench.due("X behind DRAW " + (k + 1), x.count(7), due[k]);
    }
    x.seed(65535);
    x.days(1);
    bench.due("from the largest", x.count(7), 54212);
    x.seed(0);
    x.days(1);
    bench.due("from 0", x.count(7), 13849);
    BureauCrown y = Bench.with("a9;A1", "e1(1=1);x(w=9)");
    y.seed(0);
    bench.due("13849 modulo 10 is 9", y.tried(1, 0), 0);
    Bench.rule(y, "e1(1=1);x(w<9)");
    bench.due("and no less", y.tried(1, 0), 1);
  }

  // ---- promise 6

  @Says(promise = 6, words = "DAYS (1 to 100;")
  static void promise06_1To100Days(Bench bench) {
    BureauCrown x = new BureauCrown();
    bench.due("days(1)", x.days(1), 0);
    bench.due("THE DAY", x.count(0), 1);
    bench.due("days(100)", x.days(100), 0);
    bench.due("THE DAY", x.count(0), 101);
    bench.due("days(7)", x.days(7), 0);
    bench.due("THE DAY", x.count(0), 108);
  }

  @Says(promise = 6, words = "as many as can) go by")
  static void promise06_asManyAsCan(Bench bench) {
    BureauCrown x = Bench.with("a9;A1>a;B1");
    go(x, LAST_DAY - 3);
    int drawn = x.count(7);
    Bench.rule(x, "e1(t=98)");
    bench.due("days(100) of which three can", x.days(100), 1);
    bench.due("THE DAY", x.count(0), LAST_DAY);
    bench.due("DAYS", x.paperIs(0, 4), LAST_DAY);
    bench.due("DAYS of the one put IN on the last", x.paperIs(1, 4), 1);
    bench.due("X", x.count(7), Bench.drawn(drawn, 2 + 2 + 3));
  }

  @Says(promise = 6, words = "how many PAPERS were put IN")
  static void promise06_howManyWerePutIn(Bench bench) {
    BureauCrown x = Bench.with("a9;A1;B1;C1;D1>a;E1", "e1(p=t)");
    bench.due("one a DAY, three in four", x.days(4), 3);
    bench.due("OUT", x.count(3), 16);
    bench.due("the last", x.days(1), 1);
    bench.due("none is left", x.days(100), 0);
    bench.due("no PAPERS at all", Bench.with("a9", "e1(1=1)").days(100), 0);
  }

  @Says(promise = 6, words = "NONE: no such n")
  static void promise06_noSuchN(Bench bench) {
    BureauCrown x = Bench.with("a9;A1>a;B1", "e1(1=1);r10(1=1)");
    String before = Bench.look(x);
    int[] none = {0, -1, 101, -100, Integer.MAX_VALUE, Integer.MIN_VALUE};
    for (int n : none) {
      bench.due("days(" + n + ")", x.days(n), -1);
      bench.due("nothing is changed", Bench.look(x), before);
    }
  }

  // ---- promise 7

  @Says(promise = 7, words = "TRIED are n DAYS by the DRAWS that will come (nothing is changed).")
  static void promise07_byTheDrawsThatWillCome(Bench bench) {
    BureauCrown x = Bench.with("a9;b5;c9;A4;B3>b;C2;D5;E1", "ez+f-n(1=1);x(w>6);r6-a(1=1)");
    x.seed(4711);
    int[] what = {0, 1, 2, 3, 10, 11, 12, 30, 31, 32, 33, 34};
    int[] tried = new int[what.length];
    String before = Bench.look(x);
    for (int k = 0; k < what.length; k++) {
      tried[k] = x.tried(3, what[k]);
    }
    bench.due("nothing is changed", Bench.look(x), before);
    int readBefore = x.count(4);
    bench.due("days(3)", x.days(3), tried[0]);
    bench.due("READ that were not", Integer.bitCount(x.count(4) & ~readBefore), tried[1]);
    bench.due("OUT", x.count(3), tried[2]);
    bench.due("READ", x.count(4), tried[3]);
    for (int d = 0; d < 3; d++) {
      bench.due("FULL of " + d, x.drawerIs(d, 1), tried[4 + d]);
    }
    for (int p = 0; p < 5; p++) {
      bench.due("where " + p + " is", x.paperIs(p, 2), tried[7 + p]);
    }
  }

  @Says(promise = 7, words = "DAYS (1 to 100; as many as can) that are tried")
  static void promise07_1To100AsManyAsCan(Bench bench) {
    BureauCrown x = Bench.with("a9;A1", "e1(t=0)");
    bench.due("tried(1, 0)", x.tried(1, 0), 1);
    goWithoutALaw(x, 1);
    Bench.rule(x, "e1(t=0)");
    bench.due("tried(99, 0)", x.tried(99, 0), 0);
    bench.due("tried(100, 0)", x.tried(100, 0), 1);
    goWithoutALaw(x, LAST_DAY - 3);
    bench.due("THE DAY", x.count(0), LAST_DAY - 2);
    Bench.rule(x, "e1(t=0)");
    bench.due("tried(100, 0) of which two can", x.tried(100, 0), 0);
    Bench.rule(x, "e1(t=98)");
    bench.due("tried(1, 0), not on the next", x.tried(1, 0), 0);
    bench.due("tried(100, 0), on the last", x.tried(100, 0), 1);
    Bench.rule(x, "e1(t=99)");
    bench.due("tried(100, 0), none behind the last", x.tried(100, 0), 0);
  }

  @Says(promise = 7, words = "what 0 PAPERS put IN in them")
  static void promise07_what0(Bench bench) {
    BureauCrown x = Bench.with("a9;A1;B1>a;C1;D9", "e1(p=2*t)");
    bench.due("tried(1, 0)", x.tried(1, 0), 1);
    bench.due("tried(2, 0)", x.tried(2, 0), 2);
    bench.due("tried(100, 0)", x.tried(100, 0), 2);
  }

  @Says(promise = 7, words = "1 how often one is READ that was not")
  static void promise07_what1(Bench bench) {
    BureauCrown x = Bench.with("a9;A1>a;B1>a;C1>a;D1", "r10(p=t)");
    bench.due("tried(1, 1)", x.tried(1, 1), 1);
    bench.due("tried(2, 1)", x.tried(2, 1), 2);
    bench.due("tried(100, 1), 3 is OUT", x.tried(100, 1), 3);
    x.days(1);
    bench.due("READ", x.count(4), 1);
    Bench.rule(x, "r10(1=1)");
    bench.due("the one that was READ is not told again", x.tried(9, 1), 2);
  }

  @Says(promise = 7, words = "2 OUT ones (bits)")
  static void promise07_what2(Bench bench) {
    BureauCrown x = Bench.with("a99;" + Bench.times(24, "A1", ";"), "e1(p<23)");
    bench.due("tried(1, 2)", x.tried(1, 2), 1 << 23);
    Bench.rule(x, "e1(p>0)");
    bench.due("tried(1, 2)", x.tried(1, 2), 1);
    Bench.rule(x, "e1(1=1)");
    bench.due("tried(1, 2)", x.tried(1, 2), 0);
  }

  @Says(promise = 7, words = "3 READ ones (bits) then")
  static void promise07_what3(Bench bench) {
    BureauCrown x = Bench.with("a99;" + Bench.times(24, "A1>a", ";"), "r10(p=23)");
    bench.due("tried(1, 3)", x.tried(1, 3), 1 << 23);
    x.days(1);
    Bench.rule(x, "r10(p=0)");
    bench.due("with those READ before", x.tried(1, 3), 1 << 23 | 1);
  }

  @Says(promise = 7, words = "10 + d FULL of told DRAWER d then")
  static void promise07_what10(Bench bench) {
    BureauCrown x = Bench.with("a9;l9;A4>a;B3;C2", "e1(d=11)");
    bench.due("tried(1, 10)", x.tried(1, 10), 4);
    bench.due("tried(1, 21)", x.tried(1, 21), 5);
    bench.due("tried(1, 11), not told", x.tried(1, 11), -1);
    bench.due("tried(1, 20), not told", x.tried(1, 20), -1);
    bench.due("tried(1, 22)", x.tried(1, 22), -1);
    bench.due("tried(1, 9)", x.tried(1, 9), -1);
  }

  @Says(promise = 7, words = "30 + p where PAPER p is then (OUT: -2)")
  static void promise07_what30(Bench bench) {
    BureauCrown x = Bench.with("a9;l9;A4>a;B3;C2", "e1(d=11&p=1)");
    bench.due("tried(1, 30)", x.tried(1, 30), 0);
    bench.due("tried(1, 31)", x.tried(1, 31), 11);
    bench.due("tried(1, 32)", x.tried(1, 32), -2);
    bench.due("tried(1, 33)", x.tried(1, 33), -1);
    bench.due("tried(1, 29)", x.tried(1, 29), -1);
    x = Bench.with("a99;" + Bench.times(24, "A1", ";"), "e1(p=23)");
    bench.due("tried(1, 53)", x.tried(1, 53), 0);
    bench.due("tried(1, 54)", x.tried(1, 54), -1);
  }

  @Says(promise = 7, words = "NONE: no such ones")
  static void promise07_noSuchOnes(Bench bench) {
    BureauCrown x = Bench.with("a9;b9;A1;B1>b", "e1(1=1);r10(1=1)");
    String before = Bench.look(x);
    int[] days = {0, -1, 101, Integer.MAX_VALUE, Integer.MIN_VALUE};
    for (int n : days) {
      bench.due("tried(" + n + ", 0)", x.tried(n, 0), -1);
      bench.due("tried(" + n + ", 10)", x.tried(n, 10), -1);
      bench.due("tried(" + n + ", 30)", x.tried(n, 30), -1);
    }
    int[] whats = {-1, 4, 9, 12, 21, 22, 29, 32, 53, 54, Integer.MAX_VALUE, Integer.MIN_VALUE};
    for (int what : whats) {
      bench.due("tried(1, " + what + ")", x.tried(1, what), -1);
    }
    bench.due("nothing is changed", Bench.look(x), before);
    bench.due("without PAPERS", new BureauCrown().tried(1, 30), -1);
    bench.due("without DRAWERS", new BureauCrown().tried(1, 10), -1);
  }

  // ---- promise 10

  @Says(promise = 10, words = "SHUT: behind how many of n DAYS no PAPER is OUT first.")
  static void promise10_behindHowManyDays(Bench bench) {
    BureauCrown x = Bench.with("a9;A1;B1;C1", "e1(p=t)");
    String before = Bench.look(x);
    bench.due("shut(5)", x.shut(5), 3);
    bench.due("shut(100)", x.shut(100), 3);
    bench.due("nothing is changed", Bench.look(x), before);
    x.days(1);
    bench.due("a DAY later", x.shut(100), 2);
    // By the DRAWS that will come: from 1 on the one DRAWER sticks while its DRAW is above 2.
    BureauCrown y = Bench.with("a9;A1", "e1(1=1);x(w>2)");
    y.seed(39022);
    int due = 1;
    for (int now = Bench.drawn(39022, 1); now % 10 > 2; now = Bench.drawn(now, 1)) {
      due++;
    }
    bench.due("by the DRAWS", y.shut(100), due);
    bench.due("so it comes", y.days(due - 1) * 10 + y.days(1), 1);
  }

  @Says(promise = 10, words = "SHUT in n DAYS (1 to 100; 0: it is)")
  static void promise10_0ItIs(Bench bench) {
    bench.due("no PAPERS", new BureauCrown().shut(1), 0);
    bench.due("all are IN", Bench.with("a9;A1>a;B1>a").shut(1), 0);
    bench.due("all are IN, 100 DAYS", Bench.with("a9;A1>a;B1>a").shut(100), 0);
    bench.due("put IN on the first", Bench.with("a9;A1>a;B1", "e1(1=1)").shut(1), 1);
    BureauCrown x = Bench.with("a9;A1", "e1(t=99)");
    bench.due("put IN on the 100th", x.shut(100), 100);
    bench.due("not in 99", x.shut(99), -2);
  }

  @Says(promise = 10, words = "-2: not in these")
  static void promise10_notInThese(Bench bench) {
    BureauCrown x = Bench.with("a9;A1;B1;C1", "e1(p=t)");
    bench.due("shut(2)", x.shut(2), -2);
    bench.due("shut(3)", x.shut(3), 3);
    bench.due("no LAW", Bench.with("a9;A1").shut(100), -2);
    bench.due("no ROOM", Bench.with("a8;A9", "e1(1=1)").shut(100), -2);
    bench.due("no DRAWERS", Bench.with("A1", "e1(1=1)").shut(100), -2);
    BureauCrown y = Bench.with("a9;A1;B1");
    go(y, LAST_DAY - 1);
    Bench.rule(y, "e1(p+98=t)");
    bench.due("the days end with one OUT", y.shut(100), -2);
    Bench.rule(y, "e1(t=98)");
    bench.due("behind the last of the days", y.shut(100), 1);
  }

  @Says(promise = 10, words = "NONE: no such n")
  static void promise10_noSuchN(Bench bench) {
    BureauCrown x = Bench.with("a9;A1>a");
    int[] none = {0, -1, 101, Integer.MAX_VALUE, Integer.MIN_VALUE};
    for (int n : none) {
      bench.due("shut(" + n + ")", x.shut(n), -1);
    }
  }
}
