/** Promise 15: slips in a round hand. */
public final class SlipTest {
  private static final Bench bench = new Bench();

  public static void main(String[] args) {
    faults();
    tooMany();
    rounds();
    answers();
    refusals();
    bench.end("SlipTest");
  }

  private static void letters(String text, int due) {
    BureauCrown x = new BureauCrown();
    bench.due("slip \"" + text + "\"", Bench.slip(x, text, 100), due);
    bench.due("tape behind \"" + text + "\"", x.count(6), 0);
  }

  private static void faults() {
    letters("z", 1);
    letters("A", -1000);
    letters("{", -1000);
    letters("`", -1000);
    letters(" a", -1000);
    letters("0a", -1000);
    letters("1a", -1000);
    letters("2", -1001);
    letters("23a", -1001);
    letters("a2", -1002);
    letters(")", -1000);
    letters("()", -1001);
    letters("2()", -1002);
    letters("(a", -1002);
    letters("(a))", -1003);
    letters("(2)", -1002);
    letters("(a;", -1002);
    letters("((a)b(c)d)", 4);
    letters("(((a)))", -5002);
    letters("2(2(2(a)))", -5005);
    letters("(a)(b)(c)", 3);
    letters("((a)(b))((c)(d))", 4);
    letters("((a)((", -5005);
  }

  private static void tooMany() {
    String sixtyThree = Bench.times(7, "9a", "");
    letters(sixtyThree + "b", 64);
    letters(sixtyThree + "2b", -6014);
    letters(sixtyThree + "bc", -6015);
    letters("8(8a)", 64);
    letters("8(8a)b", -6005);
    letters("9(8a)", -6000);
    letters("b9(8a)", -6001);
    letters("8(8a" + ")(b)", -6006);
    // Of an inner one first: by the inner letter they are 65, before its round ends.
    letters(sixtyThree + "2(b)", -6014);
    letters(sixtyThree + "2(bc)", -6017);
    letters("2(9(9a))", -6002);
    letters("2(5(9a))", -6000);
    letters("(" + Bench.times(8, "9a", "") + ")", -6015);
    letters("9(9a", -1004);
    letters(sixtyThree + "2b" + ")", -6014);
    letters("8(8a)2", -1006);
    letters(Bench.times(64, "a", ""), 64);
    letters(Bench.times(65, "a", ""), -6064);
    letters(Bench.times(80, "a", ""), -6064);
  }

  private static void is(String text, int what, int due) {
    bench.due("slip \"" + text + "\", " + what, Bench.slip(new BureauCrown(), text, what), due);
  }

  private static void rounds() {
    is("3a2(b2c)", 100, 9);
    is("2(a2(bc)d)", 100, 12);
    is("2(ab)", 104, 0);
    is("2(ab)a", 104, 1);
    is("2(a2(bc)d)", 105, 3);
    is("2(ab)c2(ba)", 105, 9);
    is("abab", 105, 3);
  }

  private static void answers() {
    is("banana", 0, 3);
    is("banana", 1, 2);
    is("zyx", 1, 1);
    is("zyx", 25, 0);
    is("aeiou", 0, 5);
    is("aeiou", 4, 2);
    is("z", 1, 1);
    is("v", 25, 1);
    is("zzyya", 101, 24);
    is("zzyya", 102, 2);
    is("zyx", 101, 23);
    is("zyx", 102, 1);
    is("aeiou", 103, 0);
    is("bfjpv", 103, 25);
    is("z", 103, 1);
    is("b", 103, 3);
    is("a", 104, 1);
    is("ab", 104, 0);
    is("abba", 104, 1);
    is("abc", 105, 1);
    is("abcddcx", 105, 4);
    is("xabcba", 105, 5);
  }

  private static void refusals() {
    BureauCrown x = new BureauCrown();
    bench.due("slip of an empty tape", x.slip(1, 100), -1);
    Bench.feedText(x, Bench.times(100, "a", ""));
    bench.due("what 26", x.slip(1, 26), -1);
    bench.due("what 99", x.slip(1, 99), -1);
    bench.due("what 106", x.slip(1, 106), -1);
    bench.due("what -1", x.slip(1, -1), -1);
    bench.due("n 0", x.slip(0, 100), -1);
    bench.due("n 81", x.slip(81, 100), -1);
    bench.due("n -1", x.slip(-1, 100), -1);
    bench.due("the tape stays", x.count(6), 100);
    bench.due("n 80", x.slip(80, 100), -6064);
    bench.due("the tape is empty", x.count(6), 0);
  }
}
