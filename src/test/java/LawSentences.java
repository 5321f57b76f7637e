/** Promise 4: the text of the law, its bounds and its faults. */
final class LawSentences {
  private static final String RULES_16 = Bench.times(16, "x(1=1)", ";");

  private static void fault(Bench bench, String text, int due) {
    BureauCrown x = new BureauCrown();
    bench.due("law \"" + text + "\"", Bench.law(x, text), due);
    bench.due("RULES behind \"" + text + "\"", x.count(5), Math.max(0, due));
  }

  @Says(promise = 4, words = "THE LAW by the first n bytes of the tape (1 to 240;")
  static void promise04_byTheFirstNBytes(Bench bench) {
    BureauCrown x = Bench.fed("x(1=1);r1(1=1);!!");
    bench.due("law(6)", x.law(6), 1);
    x = Bench.fed("x(1=1);r1(1=1);!!");
    bench.due("law(14)", x.law(14), 2);
    x = Bench.fed("x(1=1);r1(1=1);!!");
    bench.due("n 1", x.law(1), -1001);
    x = Bench.fed("x(1=12345678)");
    bench.due("the text ends where n says", x.law(9), -1009);
  }

  @Says(promise = 4, words = "THE LAW: a TEXT of at most 240 bytes")
  static void promise04_atMost240Bytes(Bench bench) {
    String bytes240 = "e" + Bench.times(117, "1", "+") + "(1=1)";
    String padded = "e1" + bytes240.substring(1);
    BureauCrown x = new BureauCrown();
    bench.due("bytes", padded.length(), 240);
    bench.due("law of 240", Bench.law(x, padded), 1);
    Bench.cabinet(x, "a9;A1");
    bench.due("it is asked to its end", x.tried(1, 0), 1);
    bench.due("law of 241", Bench.law(x, "e11" + bytes240.substring(1)), -1);
    bench.due("the tape stays", x.count(6), 260);
    bench.due("240 bytes of the 241", x.law(240), -1240);
  }

  @Says(promise = 4, words = "at most 240 bytes, no blanks")
  static void promise04_noBlanks(Bench bench) {
    fault(bench, " x(1=1)", -1000);
    fault(bench, "x (1=1)", -1001);
    fault(bench, "x( 1=1)", -1002);
    fault(bench, "x(1 =1)", -1003);
    fault(bench, "x(1= 1)", -1004);
    fault(bench, "x(1=1 )", -1005);
    fault(bench, "x(1=1) ", -1006);
    fault(bench, "x(1=1); x(1=1)", -1007);
    fault(bench, "e 1(1=1)", -1001);
    fault(bench, "e1 (1=1)", -1002);
    fault(bench, "e1+ 1(1=1)", -1003);
    fault(bench, "e[ 1](1=1)", -1002);
    fault(bench, "x(! 1=1)", -1003);
    fault(bench, "x(1=1& 1=1)", -1006);
  }

  @Says(promise = 4, words = "empty then")
  static void promise04_emptyThen(Bench bench) {
    BureauCrown x = Bench.fed("x(1=1)                                 ");
    bench.due("law(6)", x.law(6), 1);
    bench.due("tape", x.count(6), 0);
    Bench.feedText(x, "x(1=1)                                 ");
    bench.due("a FAULT", x.law(7), -1006);
    bench.due("tape behind a FAULT", x.count(6), 0);
  }

  @Says(promise = 4, words = "in place of the one before")
  static void promise04_inPlaceOfTheOneBefore(Bench bench) {
    BureauCrown x = Bench.with("a9;A1;B1>a", "e1(1=1);x(1=2);r10(1=1)");
    bench.due("put IN by the one before", x.tried(1, 0), 1);
    bench.due("READ by the one before", x.tried(1, 1), 2);
    Bench.rule(x, "r0(1=1)");
    bench.due("RULES", x.count(5), 1);
    bench.due("no e any more", x.tried(1, 0), 0);
    bench.due("no other r any more", x.tried(1, 1), 0);
    Bench.rule(x, "x(1=1);e1(1=1)");
    bench.due("an x", x.tried(1, 0), 0);
    Bench.rule(x, "e1(1=1)");
    bench.due("no x any more", x.tried(1, 0), 1);
  }

  @Says(promise = 4, words = "in place of the one before")
  static void promise04_nothingIsLeftOfMany(Bench bench) {
    BureauCrown x = Bench.with("a9;A1");
    for (int k = 0; k < 20; k++) {
      bench.due("a long one", Bench.law(x, "e" + Bench.times(117, "p", "+") + "(1=1)"), 1);
      bench.due("its e is 0", x.tried(1, 0), 0);
      bench.due("a faulty one", Bench.law(x, "e" + Bench.times(116, "1", "+") + "(1=1)!"), -1237);
      bench.due("a short one", Bench.law(x, "r1(1=2);e1(1=1)"), 2);
      bench.due("its e is 1", x.tried(1, 0), 1);
    }
  }

  @Says(promise = 4, words = "how many RULES")
  static void promise04_howManyRules(Bench bench) {
    fault(bench, "x(1=1)", 1);
    fault(bench, "e1(1=1);r2(1=1)", 2);
    fault(bench, "e1(1=1);e1(1=1);e1(1=1)", 3);
    fault(bench, RULES_16, 16);
  }

  @Says(promise = 4, words = "a FAULT: -1000 times its number, less its place")
  static void promise04_theAnswerOfAFault(Bench bench) {
    fault(bench, "!", -1000);
    fault(bench, "e!", -1001);
    fault(bench, "e1(1=123456)", -2010);
    fault(bench, RULES_16 + ";x", -4112);
    fault(bench, "x(((((((", -5007);
    fault(bench, "e" + Bench.times(118, "1", "+") + "!!!", -1236);
  }

  @Says(promise = 4, words = "(the one before stays)")
  static void promise04_theOneBeforeStaysBehindAFault(Bench bench) {
    String[] faulty = {"r0(1=1);!", "x(1=1);e123456(1=1)", Bench.times(17, "x(1=1)", ";"), "x(1=1);e[[[[[[[1"};
    for (String text : faulty) {
      BureauCrown x = Bench.with("a9;b9;A1>a;B1", "e2(d=1);e1(1=1);r10(p=1)");
      bench.due("a FAULT of " + text, Bench.law(x, text) <= -1000, true);
      bench.due("RULES behind " + text, x.count(5), 3);
      bench.due("where 1 is put behind " + text, x.tried(1, 31), 1);
      bench.due("READ behind " + text, x.tried(1, 3), 2);
    }
    BureauCrown x = new BureauCrown();
    Bench.law(x, "x(1=1);!");
    bench.due("none stays none", x.count(5), 0);
  }

  @Says(promise = 4, words = "NONE: no such n")
  static void promise04_noSuchN(Bench bench) {
    BureauCrown x = Bench.fed(Bench.times(42, "x(1=1)", ";").substring(0, 260));
    bench.due("tape", x.count(6), 260);
    int[] none = {0, -1, 241, 260, 261, Integer.MAX_VALUE, Integer.MIN_VALUE};
    for (int n : none) {
      bench.due("law(" + n + ")", x.law(n), -1);
      bench.due("the tape stays", x.count(6), 260);
    }
    bench.due("law(111)", x.law(111), 16);
  }

  @Says(promise = 4, words = "it has not so many (the tape stays)")
  static void promise04_itHasNotSoMany(Bench bench) {
    BureauCrown x = new BureauCrown();
    bench.due("law(1) of an empty tape", x.law(1), -1);
    Bench.feedText(x, "x(1=1);x(1=1);x(1=1)");
    bench.due("law(21) of 20 bytes", x.law(21), -1);
    bench.due("law(240) of 20 bytes", x.law(240), -1);
    bench.due("the tape stays", x.count(6), 20);
    bench.due("law(20) of 20 bytes", x.law(20), 3);
  }

  @Says(promise = 4, words = "RULES (16 at most)")
  static void promise04_16RulesAtMost(Bench bench) {
    fault(bench, Bench.times(15, "x(1=1)", ";"), 15);
    fault(bench, RULES_16, 16);
    fault(bench, Bench.times(17, "x(1=1)", ";"), -4112);
    BureauCrown x = Bench.with("a9;A1", Bench.times(15, "e1(1=2)", ";") + ";e1(1=1)");
    bench.due("the 16th is asked", x.tried(1, 0), 1);
  }

  @Says(promise = 4, words = "RULES (16 at most) with a ; (59) between two")
  static void promise04_rulesWithASemicolonBetween(Bench bench) {
    fault(bench, "x(1=1);x(1=1)", 2);
    fault(bench, "x(1=1):x(1=1)", -1006);
    fault(bench, "x(1=1)<x(1=1)", -1006);
    fault(bench, "x(1=1)x(1=1)", -1006);
    fault(bench, "x(1=1);;x(1=1)", -1007);
    fault(bench, ";x(1=1)", -1000);
    fault(bench, "x(1=1);", -1007);
  }

  @Says(promise = 4, words = "a letter, E, and (C), of x only (C)")
  static void promise04_aRule(Bench bench) {
    fault(bench, "e1(1=1)", 1);
    fault(bench, "r1(1=1)", 1);
    fault(bench, "x(1=1)", 1);
    fault(bench, "e(1=1)", -1001);
    fault(bench, "r(1=1)", -1001);
    fault(bench, "x1(1=1)", -1001);
    fault(bench, "e1", -1002);
    fault(bench, "r1;", -1002);
    fault(bench, "x", -1001);
    fault(bench, "e1[1=1]", -1002);
    fault(bench, "x()", -1002);
    BureauCrown x = new BureauCrown();
    for (int sign = 0; sign < 256; sign++) {
      if (sign != 'e' && sign != 'r') {
        Bench.feedBytes(x, sign, '(', '1', '=', '1', ')');
        bench.due("a rule of the sign " + sign, x.law(6), sign == 'x' ? 1 : -1000);
      }
    }
  }

  @Says(promise = 4, words = "a TEST: !TEST, (C), or E, one of < > =, and E.")
  static void promise04_aTest(Bench bench) {
    fault(bench, "x(1<1)", 1);
    fault(bench, "x(1>1)", 1);
    fault(bench, "x(!1=1)", 1);
    fault(bench, "x((1=1|1=1)&!(1=1&1=1))", 1);
    fault(bench, "x(1)", -1003);
    fault(bench, "x(1;1)", -1003);
    fault(bench, "x(1?1)", -1003);
    fault(bench, "x(1=1=1)", -1005);
    fault(bench, "x(1<=1)", -1004);
    fault(bench, "x(=1)", -1002);
    fault(bench, "x(1=)", -1004);
    fault(bench, "x(1!1=1)", -1003);
    fault(bench, "x(!)", -1003);
    fault(bench, "x((1)=1)", -1004);
    fault(bench, "x(1=(1))", -1004);
    fault(bench, "x((1=1)=1)", -1007);
    fault(bench, "x((1=1)", -1007);
    fault(bench, "x([1=1])", -1004);
    fault(bench, "x(|1=1)", -1002);
    fault(bench, "x(1=1|)", -1006);
    fault(bench, "x(1=1&)", -1006);
    fault(bench, "x(1=1||1=1)", -1006);
    fault(bench, "x(1=1&|1=1)", -1006);
    fault(bench, "x(1=1,1=1)", -1005);
  }

  @Says(promise = 4, words = "E: TERMS with + or - between two; a TERM: FACTORS with one of * / % between two")
  static void promise04_anExpression(Bench bench) {
    fault(bench, "e1+2-3*4/5%6(1=1)", 1);
    fault(bench, "e+1(1=1)", -1001);
    fault(bench, "e-1(1=1)", -1001);
    fault(bench, "e*1(1=1)", -1001);
    fault(bench, "e1+(1=1)", -1003);
    fault(bench, "e1*(1=1)", -1003);
    fault(bench, "e1--1(1=1)", -1003);
    fault(bench, "e1*+1(1=1)", -1003);
    fault(bench, "e1,1(1=1)", -1002);
    fault(bench, "e1.1(1=1)", -1002);
    fault(bench, "e1p(1=1)", -1002);
    fault(bench, "ep1(1=1)", -1002);
    fault(bench, "e1[1](1=1)", -1002);
    fault(bench, "x(1+=1)", -1004);
  }

  @Says(promise = 4, words = "a FACTOR: [E], a number of one to five digits, or a letter")
  static void promise04_aFactor(Bench bench) {
    fault(bench, "e0(1=1)", 1);
    fault(bench, "e99999(1=1)", 1);
    fault(bench, "e00000(1=1)", 1);
    fault(bench, "e[1](1=1)", 1);
    fault(bench, "e[1+[2]*3](1=1)", 1);
    fault(bench, "e[](1=1)", -1002);
    fault(bench, "e[1(1=1)", -1003);
    fault(bench, "e[1)(1=1)", -1003);
    fault(bench, "e1](1=1)", -1002);
    fault(bench, "e/(1=1)", -1001);
    fault(bench, "e:(1=1)", -1001);
    BureauCrown x = new BureauCrown();
    for (int sign = 0; sign < 256; sign++) {
      boolean stands = sign >= '0' && sign <= '9' || "pszdfnaitw".indexOf(sign) >= 0;
      if (sign != '[') {
        Bench.feedBytes(x, 'e', sign, '(', '1', '=', '1', ')');
        bench.due("a factor of the sign " + sign, x.law(7), stands ? 1 : -1001);
      }
    }
  }

  @Says(promise = 4, words = "FAULTS, the first from the left: 1 what can't stand there (the end, too); 2 a sixth digit")
  static void promise04_theFirstFaultFromTheLeft(Bench bench) {
    fault(bench, "e123456(!", -2006);
    fault(bench, "e!123456", -1001);
    fault(bench, "e123456(1=1);x((((((((", -2006);
    fault(bench, "x(((((((123456", -5007);
    fault(bench, RULES_16 + ";x!", -4112);
    fault(bench, "x(1=1);!" + RULES_16 + ";x", -1007);
  }

  @Says(promise = 4, words = "1 what can't stand there (the end, too)")
  static void promise04_fault1TheEndToo(Bench bench) {
    String whole = "e[1+2]*3(!(1<2|p>3)&z=45)";
    for (int n = 1; n < whole.length(); n++) {
      fault(bench, whole.substring(0, n), -1000 - n);
    }
    fault(bench, whole, 1);
    fault(bench, whole + ")", -1000 - whole.length());
    BureauCrown x = new BureauCrown();
    Bench.feedBytes(x, 'x', '(', '1', '=', '1', ')', 255);
    bench.due("a byte of 255 is no end", x.law(7), -1006);
    Bench.feedBytes(x, 'x', '(', '1', '=', '1', ')', 0);
    bench.due("a byte of 0 is no end", x.law(7), -1006);
  }

  @Says(promise = 4, words = "2 a sixth digit, at it")
  static void promise04_fault2ASixthDigit(Bench bench) {
    fault(bench, "e123456(1=1)", -2006);
    fault(bench, "e1234567(1=1)", -2006);
    fault(bench, "e000001(1=1)", -2006);
    fault(bench, "e1+123456(1=1)", -2008);
    fault(bench, "x(123456=1)", -2007);
    fault(bench, "x(1=123456", -2009);
    fault(bench, "e12345(12345=12345)", 1);
  }

  @Says(promise = 4, words = "4 a 17th RULE, at its letter")
  static void promise04_fault4A17thRule(Bench bench) {
    fault(bench, RULES_16 + ";e", -4112);
    fault(bench, RULES_16 + ";r", -4112);
    fault(bench, RULES_16 + ";x", -4112);
    fault(bench, RULES_16 + ";x(1=1)", -4112);
  }

  @Says(promise = 4, words = "4 a 17th RULE, at its letter (if that can stand there)")
  static void promise04_fault4OnlyIfTheLetterCanStandThere(Bench bench) {
    fault(bench, RULES_16 + ";", -1112);
    fault(bench, RULES_16 + ";f", -1112);
    fault(bench, RULES_16 + ";;", -1112);
    fault(bench, RULES_16 + "x", -1111);
  }

  @Says(promise = 4, words = "5 a seventh of ( [ ! that are open in one another, at it")
  static void promise04_fault5ASeventhThatIsOpen(Bench bench) {
    fault(bench, "x(((((((1=1)))))))", -5007);
    fault(bench, "x([[[[[[1]]]]]]=1)", -5007);
    fault(bench, "x(!!!!!!1=1)", -5007);
    fault(bench, "x(!(!([[1]]=1)))", -5007);
    fault(bench, "x(!(!([1]=1)))", 1);
    fault(bench, "x(1=1|!(!(!1=[2])))", -5013);
    // What has been shut is not open any more.
    fault(bench, "x((((((1=1)))))&(((((1=1)))))&[[[[[1]]]]]=[[[[[1]]]]])", 1);
    fault(bench, "x((1=1)&(1=1)&(1=1)&(1=1)&(1=1)&(1=1)&(1=1)&(1=1))", 1);
  }

  @Says(promise = 4, words = "(the ( of the RULE counts;")
  static void promise04_theRoundOfTheRuleCounts(Bench bench) {
    fault(bench, "x((((((1=1))))))", 1);
    fault(bench, "x(((((((1=1)))))))", -5007);
    fault(bench, "e1([[[[[1]]]]]=1)", 1);
    fault(bench, "e1([[[[[[1]]]]]]=1)", -5008);
  }

  @Says(promise = 4, words = "a ! is open till its TEST ends")
  static void promise04_aNotIsOpenTillItsTestEnds(Bench bench) {
    fault(bench, "x(!!!!!1=1)", 1);
    fault(bench, "x(!!!!!1=1&!!!!!1=1|!!!!!1=1)", 1);
    fault(bench, "x(!!!!1=[1])", 1);
    fault(bench, "x(!!!!!1=[1])", -5009);
    fault(bench, "x(!!!!!1=1&[[[[[1]]]]]=1)", 1);
    fault(bench, "x(!!!!!(1=1))", -5007);
    fault(bench, "x(!!!!(1=1)&(1=1))", 1);
  }

  @Says(promise = 4, words = "the E of a RULE stands ahead of it)")
  static void promise04_theExpressionOfARuleStandsAheadOfItsRound(Bench bench) {
    fault(bench, "e[[[[[[1]]]]]](1=1)", 1);
    fault(bench, "e[[[[[[[1]]]]]]](1=1)", -5007);
    fault(bench, "r[[[[[[1]]]]]]((((((1=1))))))", 1);
  }
}
