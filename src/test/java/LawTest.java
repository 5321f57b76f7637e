/** Promises 4, 6, 7 and 10: the law and its faults, days that go by, days that are tried, when all is shut. */
public final class LawTest {
  private static final Bench bench = new Bench();

  public static void main(String[] args) {
    faults();
    depth();
    limits();
    expressions();
    tests();
    refused();
    lettersOfWishes();
    lettersOfReading();
    lettersOfSticking();
    whichDrawer();
    draws();
    lastDay();
    tried();
    shut();
    bench.end("LawTest");
  }

  private static void fault(String text, int due) {
    BureauCrown x = new BureauCrown();
    Bench.law(x, "e1(1=1);x(1=1)");
    bench.due("law \"" + text + "\"", Bench.law(x, text), due);
    bench.due("tape behind \"" + text + "\"", x.count(6), 0);
    bench.due("RULES behind \"" + text + "\"", x.count(5), due < 0 ? 2 : due);
  }

  private static void faults() {
    fault("e1(1=1)", 1);
    fault("x(1=1)", 1);
    fault("r10(w<5);x(f=0|n>3);e[1+2]*3(!(s=1)&z<4)", 3);
    fault("e(1=1)", -1001);
    fault("x1(1=1)", -1001);
    fault("f1(1=1)", -1000);
    fault("E1(1=1)", -1000);
    fault("e", -1001);
    fault("e1", -1002);
    fault("e1+", -1003);
    fault("e+1(1=1)", -1001);
    fault("e-1(1=1)", -1001);
    fault("eq(1=1)", -1001);
    fault("e1()", -1003);
    fault("e1(1)", -1004);
    fault("e1(1=)", -1005);
    fault("e1(1==1)", -1005);
    fault("e1(1=1", -1006);
    fault("e1(1=1;", -1006);
    fault("e1(1=1)e", -1007);
    fault("e1(1=1);", -1008);
    fault("e1(1=1);;", -1008);
    fault("e1(1=1=1)", -1006);
    fault("e1((1)=1)", -1005);
    fault("e1([1=1])", -1005);
    fault("e1([1]=1)", 1);
    fault("e1(1=1&)", -1007);
    fault("e1(1=1||1=1)", -1007);
    fault("e1(!)", -1004);
    fault("e1 (1=1)", -1002);
    fault("e[1](1=1)", 1);
    fault("e[](1=1)", -1002);
    fault("e[1(1=1)", -1003);
    fault("e99999(1=1)", 1);
    fault("e123456(1=1)", -2006);
    fault("e000001(1=1)", -2006);
    fault("e1(1=1234567)", -2010);
    fault("e1(1=1)" + (char) 200, -1007);
    BureauCrown x = new BureauCrown();
    Bench.feedBytes(x, 'x', '(', '1', '=', '1', ')', 0);
    bench.due("law with a zero byte", x.law(7), -1006);
    bench.due("law(1) of an empty tape", x.law(1), -1);
  }

  private static void depth() {
    fault("e[[[[[[1]]]]]](1=1)", 1);
    fault("e[[[[[[[1]]]]]]](1=1)", -5007);
    fault("x((((((1=1))))))", 1);
    fault("x(((((((1=1)))))))", -5007);
    fault("x(!!!!!1=1)", 1);
    fault("x(!!!!!!1=1)", -5007);
    fault("x(!!!!![1]=1)", -5007);
    fault("x(!!!!1=[1])", 1);
    fault("x(!!!!1=1&!!!!!1=1)", 1);
    fault("x(!!!!!1=1&(((((1=1)))))|[[[[[1]]]]]=1)", 1);
    fault("x(!(!(!([1]=1))))", -5007);
    fault("x(!(!(!(1=1))))", -5007);
    fault("x(!(!(!1=1)))", 1);
    fault("x((((((", -1007);
    fault("x(((((((", -5007);
  }

  private static void limits() {
    fault(Bench.times(16, "x(1=1)", ";"), 16);
    fault(Bench.times(16, "x(1=1)", ";") + ";", -1112);
    fault(Bench.times(16, "x(1=1)", ";") + ";x", -4112);
    fault(Bench.times(16, "x(1=1)", ";") + ";y", -1112);
    // 240 bytes, all used.
    String longest = "e" + Bench.times(117, "1", "+") + "(1=1)";
    fault(longest + "x", -1239);
    fault("x(1=1" + Bench.times(58, "|1=1", "") + ")", 1);
    fault("x(1=1" + Bench.times(58, "&1=1", "") + "))", -1238);
    fault("e1" + Bench.times(116, "-p", "") + "(1=1)", 1);
  }

  /** What an E is worth, by how far a paper is put into drawer b rather than a, whose worth is told. */
  private static void worth(String expression, int due) {
    BureauCrown x = new BureauCrown();
    Bench.cabinet(x, "a9;b9;A1");
    Bench.law(x, "e" + due + "(d=0);e" + expression + "(1=1)");
    bench.due(expression + " is not above " + due, x.tried(1, 30), 0);
    Bench.law(x, "e" + (due - 1) + "(d=0);e" + expression + "(1=1)");
    bench.due(expression + " is above " + (due - 1), x.tried(1, 30), 1);
  }

  private static void expressions() {
    worth("7", 7);
    worth("2+3*4", 14);
    worth("[2+3]*4", 20);
    worth("10-4-3", 3);
    worth("100/7/2", 7);
    worth("100%7*3", 6);
    worth("2*7%4", 2);
    worth("00012", 12);
    worth("12000", 9999);
    worth("99999*99999", 9999);
    worth("0-[1-11]", 10);
    worth("0-7/2+8", 5);
    worth("5-[0-7]%4", 5 + 3);
    // 65536 * 65536 is 0 with 32 bits, 65536 * 32768 is the least int.
    worth("65536*65536+3", 3);
    worth("65536*32768-1-65535*32767+1-98304+2", 1);
    worth("65536*32768/[0-1]-65536*32768+6", 6);
    BureauCrown x = new BureauCrown();
    Bench.cabinet(x, "a9;A1");
    Bench.law(x, "e65536*32768(1=1)");
    bench.due("the least int is below 0", x.tried(1, 0), 0);
    Bench.law(x, "e0-1(1=1)");
    bench.due("below 0", x.tried(1, 0), 0);
    Bench.law(x, "e0(1=1);e5(1=1)");
    bench.due("the first rule that holds alone is asked", x.tried(1, 0), 0);
    Bench.law(x, "e0(1=2);e5(1=1)");
    bench.due("one that does not hold is passed over", x.tried(1, 0), 1);
  }

  private static void holds(String test, boolean due) {
    BureauCrown x = new BureauCrown();
    Bench.cabinet(x, "a9;A1");
    bench.due("law with (" + test + ")", Bench.law(x, "e1(" + test + ")"), 1);
    bench.due("(" + test + ")", x.tried(1, 0), due ? 1 : 0);
  }

  private static void tests() {
    holds("1=1", true);
    holds("1<1", false);
    holds("1<2", true);
    holds("2>1", true);
    holds("1>1", false);
    holds("0-1<0", true);
    holds("!1=1", false);
    holds("!!1=1", true);
    holds("!(1=2&1=1)", true);
    holds("1=2|1=1", true);
    holds("1=1|1=1&1=2", true);
    holds("(1=1|1=1)&1=2", false);
    holds("1=2&1=1|1=1", true);
    holds("1=2&1=1|1=2|1=1&1=1&1=1", true);
    holds("1=1&1=2&1=1", false);
    holds("!1=2&1=2", false);
    holds("!1=2&!1=3", true);
    holds("!(1=2|(1=2|1=1)&!1=1)", true);
  }

  private static void refused() {
    holds("1/0=0", false);
    holds("1%0=0", false);
    holds("!1/0=1", false);
    holds("0*[1/0]=0", false);
    holds("1=1|1/0=0", true);
    holds("1/0=0|1=1", false);
    holds("1=2|1/0=0|1=1", false);
    holds("1=2&1/0=0|1=1", true);
    holds("1=1&1/0=0|1=1", false);
    holds("!(1=1|1/0=0)", false);
    holds("(1=2&1/0=0)|1=1", true);
    BureauCrown x = new BureauCrown();
    Bench.cabinet(x, "a9;A1");
    Bench.law(x, "e5+1/[p-p](1=1);e5(1=1)");
    bench.due("the E is 0, no other rule is asked", x.tried(1, 0), 0);
    Bench.law(x, "e5(1/0=0);e5(1=1)");
    bench.due("the C does not hold, the next rule is asked", x.tried(1, 0), 1);
    Bench.law(x, "x(1/0=0);e5(1=1)");
    bench.due("no drawer sticks by what is refused", x.tried(1, 0), 1);
  }

  private static void wishes(String cabinet, String test, int due) {
    BureauCrown x = new BureauCrown();
    Bench.cabinet(x, cabinet);
    x.days(100);
    x.days(42);
    Bench.law(x, "e1(" + test + ")");
    bench.due("of " + cabinet + ", PAPERS left OUT by e1(" + test + ")", x.tried(1, 2), due);
  }

  private static void lettersOfWishes() {
    wishes("a99;A1;B2;P3", "p=1", 5);
    wishes("a99;A1;B2;P3", "s=15", 3);
    wishes("a99;A1;B2;P3", "z>1", 1);
    wishes("a99;A1;B2;P3", "d=0", 0);
    wishes("a99;A1;B2;P3", "d=1", 7);
    wishes("a99;A1;B2;P3", "f>96", 4);
    wishes("a99;A1;B2;P3", "n<1", 6);
    wishes("a99;D1>a;A1;B2;P3", "n<2", 12);
    wishes("a99;A1", "a=0&i=0&w=0", 0);
    wishes("a99;A1", "t=42", 0);
    wishes("a99;A1", "t=142", 1);
  }

  private static void reads(String test, int due) {
    BureauCrown x = new BureauCrown();
    Bench.cabinet(x, "a20;b30;A3>a;C4>b;P5;D6>b");
    x.days(7);
    Bench.law(x, "r10(" + test + ")");
    bench.due("PAPERS READ by r10(" + test + ")", x.tried(1, 3), due);
  }

  private static void lettersOfReading() {
    reads("1=1", 11);
    reads("p=1", 2);
    reads("s=2", 2);
    reads("z>4", 8);
    reads("d=1", 10);
    reads("f=20", 10);
    reads("n=2", 10);
    reads("a=7", 11);
    reads("a=8", 0);
    reads("i=0", 11);
    reads("i=1", 0);
    reads("t=7", 11);
    BureauCrown x = new BureauCrown();
    Bench.cabinet(x, "a20;A3>a");
    Bench.law(x, "r10(i=0)");
    bench.due("READ once", x.tried(9, 1), 1);
    bench.due("READ stays", x.tried(9, 3), 1);
    bench.due("r0", Bench.law(x, "r0(1=1)"), 1);
    bench.due("never READ", x.tried(100, 1), 0);
    Bench.law(x, "r0-5(1=1)");
    bench.due("never READ below 0", x.tried(100, 1), 0);
    Bench.law(x, "r99(1=1)");
    bench.due("READ at once", x.tried(1, 1), 1);
    // The draws from 1 on: 39022, then (25173 * 39022 + 13849) modulo 65536 = 61087.
    Bench.law(x, "r7(1=1)");
    bench.due("the second draw is 7, not below 7", x.tried(1, 1), 0);
    Bench.law(x, "r8(1=1)");
    bench.due("the second draw is 7, below 8", x.tried(1, 1), 1);
    Bench.law(x, "r10(w=7)");
    bench.due("r is asked with the draw", x.tried(1, 1), 1);
    // One that is put IN on the day is read on it, too.
    Bench.cabinet(x, "a20;A3");
    Bench.law(x, "r10(a=0);e1(1=1)");
    bench.due("READ on the day it is put IN", x.tried(1, 3), 1);
    x.days(1);
    bench.due("DAYS behind that day", x.paperIs(0, 4), 1);
  }

  private static void sticking(String test, int due) {
    BureauCrown x = new BureauCrown();
    Bench.cabinet(x, "a20;b30;A3>a;C4>b;P5>b;D6");
    x.days(7);
    x.seed(1);
    Bench.law(x, "e1(1=1);x(" + test + ")");
    bench.due("where D6 is by x(" + test + ")", x.tried(1, 33), due);
  }

  private static void lettersOfSticking() {
    sticking("1=1", -2);
    sticking("1=2", 0);
    sticking("d=0", 1);
    sticking("d=1", 0);
    sticking("p=24&s=16&z=0&a=0&i=0&d=0", 1);
    sticking("f=17", 1);
    sticking("n=1", 1);
    sticking("n=2", 0);
    sticking("t=7&d=0", 1);
    sticking("w=2", 1);
    sticking("w=7", 0);
    sticking("w=2|w=7", -2);
    sticking("d=0);x(d=1", -2);
    sticking("d=5);x(d=0", 1);
  }

  private static void whichDrawer() {
    BureauCrown x = new BureauCrown();
    Bench.cabinet(x, "a3;b5;c5;A4;B4;C3;D1");
    Bench.law(x, "e1(1=1)");
    bench.due("days(1)", x.days(1), 4);
    bench.due("0, ROOM is asked", x.paperIs(0, 2), 1);
    bench.due("1", x.paperIs(1, 2), 2);
    bench.due("2", x.paperIs(2, 2), 0);
    bench.due("3, of like ones the lowest", x.paperIs(3, 2), 1);
    Bench.cabinet(x, "a9;b9;A1;B1;C1");
    Bench.law(x, "e10-n(1=1)");
    x.days(1);
    bench.due("as it is then: 0", x.paperIs(0, 2), 0);
    bench.due("as it is then: 1", x.paperIs(1, 2), 1);
    bench.due("as it is then: 2", x.paperIs(2, 2), 0);
  }

  private static void draws() {
    BureauCrown x = new BureauCrown();
    Bench.cabinet(x, "a9;b9;l9;A1>a;B1;C1>b");
    int due = 1;
    x.days(1);
    for (int k = 0; k < 5; k++) {
      due = (25173 * due + 13849) % 65536;
    }
    bench.due("X behind three drawers and two papers IN", x.count(7), due);
    Bench.law(x, "e1(1=1)");
    x.days(1);
    for (int k = 0; k < 6; k++) {
      due = (25173 * due + 13849) % 65536;
    }
    bench.due("X behind three drawers and three papers IN", x.count(7), due);
    bench.due("days(0)", x.days(0), -1);
    bench.due("days(101)", x.days(101), -1);
    bench.due("days(-1)", x.days(-1), -1);
    bench.due("X stays", x.count(7), due);
    bench.due("days(100)", x.days(100), 0);
    bench.due("THE DAY", x.count(0), 102);
  }

  private static void lastDay() {
    BureauCrown x = new BureauCrown();
    Bench.cabinet(x, "a9;A1>a;B1");
    for (int k = 0; k < 99; k++) {
      x.days(100);
    }
    x.days(98);
    bench.due("THE DAY", x.count(0), 9998);
    Bench.law(x, "e1(1=1)");
    bench.due("tried beyond the last", x.tried(100, 0), 1);
    bench.due("shut on the last", x.shut(100), 1);
    Bench.law(x, "e1(t=99)");
    bench.due("no day behind the last", x.tried(100, 0), 0);
    bench.due("not shut behind the last", x.shut(100), -2);
    bench.due("days(100)", x.days(100), 0);
    bench.due("THE DAY is the last", x.count(0), 9999);
    bench.due("DAYS", x.paperIs(0, 4), 9999);
    int drawn = x.count(7);
    bench.due("none goes by", x.days(1), 0);
    bench.due("X stays", x.count(7), drawn);
    x.put(1, 0);
    x.days(5);
    bench.due("DAYS of another stay", x.paperIs(1, 4), 0);
    // THE DAY goes back by undo, DAYS go on to their bound.
    BureauCrown y = new BureauCrown();
    Bench.cabinet(y, "a9;A1>a");
    for (int k = 0; k < 100; k++) {
      y.days(100);
    }
    bench.due("DAYS of y", y.paperIs(0, 4), 9999);
  }

  private static void tried() {
    BureauCrown x = new BureauCrown();
    Bench.cabinet(x, "a5;c9;A4;B5>c;C2;D4");
    Bench.law(x, "e1+d(1=1);r10(p>0)");
    int drawn = x.count(7);
    bench.due("tried(1, 0)", x.tried(1, 0), 2);
    bench.due("tried(1, 1)", x.tried(1, 1), 2);
    bench.due("tried(3, 1)", x.tried(3, 1), 2);
    bench.due("tried(1, 2)", x.tried(1, 2), 8);
    bench.due("tried(1, 3)", x.tried(1, 3), 6);
    bench.due("tried(1, 10)", x.tried(1, 10), 2);
    bench.due("tried(1, 11)", x.tried(1, 11), -1);
    bench.due("tried(1, 12)", x.tried(1, 12), 9);
    bench.due("tried(1, 22)", x.tried(1, 22), -1);
    bench.due("tried(1, 30)", x.tried(1, 30), 2);
    bench.due("tried(1, 32)", x.tried(1, 32), 0);
    bench.due("tried(1, 33)", x.tried(1, 33), -2);
    bench.due("tried(1, 34)", x.tried(1, 34), -1);
    bench.due("tried(1, 29)", x.tried(1, 29), -1);
    bench.due("tried(1, 4)", x.tried(1, 4), -1);
    bench.due("tried(1, 9)", x.tried(1, 9), -1);
    bench.due("tried(1, -1)", x.tried(1, -1), -1);
    bench.due("tried(0, 0)", x.tried(0, 0), -1);
    bench.due("tried(101, 0)", x.tried(101, 0), -1);
    bench.due("nothing is changed: OUT", x.count(3), 13);
    bench.due("nothing is changed: THE DAY", x.count(0), 0);
    bench.due("nothing is changed: X", x.count(7), drawn);
    bench.due("nothing is changed: DAYS", x.paperIs(1, 4), 0);
  }

  private static void shut() {
    BureauCrown x = new BureauCrown();
    bench.due("shut(0)", x.shut(0), -1);
    bench.due("shut(101)", x.shut(101), -1);
    bench.due("shut without papers", x.shut(1), 0);
    Bench.cabinet(x, "a9;A1;B1;C1");
    bench.due("shut without a law", x.shut(100), -2);
    Bench.law(x, "e1(p=t)");
    bench.due("shut(2)", x.shut(2), -2);
    bench.due("shut(3)", x.shut(3), 3);
    bench.due("shut(100)", x.shut(100), 3);
    bench.due("nothing is changed", x.count(3), 7);
    x.days(3);
    bench.due("shut now", x.shut(1), 0);
    Bench.cabinet(x, "a9;A1;B9");
    Bench.law(x, "e1(1=1)");
    bench.due("too large", x.shut(100), -2);
  }
}
