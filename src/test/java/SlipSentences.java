/** Promise 15: slips in a round hand. */
final class SlipSentences {
  private static final String LETTERS_63 = Bench.times(7, "9a", "");

  /** How many LETTERS a slip has, or its FAULT. */
  private static void letters(Bench bench, String text, int due) {
    bench.due("slip \"" + text + "\"", Bench.slip(new BureauCrown(), text, 100), due);
  }

  private static void is(Bench bench, String text, int what, int due) {
    bench.due("slip \"" + text + "\", " + what, Bench.slip(new BureauCrown(), text, what), due);
  }

  @Says(promise = 15, words = "A SLIP by the first n bytes of the tape (1 to 80;")
  static void promise15_byTheFirstNBytes(Bench bench) {
    BureauCrown x = Bench.fed("abc!");
    bench.due("slip(1, 100)", x.slip(1, 100), 1);
    x = Bench.fed("abc!");
    bench.due("slip(3, 100)", x.slip(3, 100), 3);
    x = Bench.fed("abc!");
    bench.due("slip(4, 100)", x.slip(4, 100), -1003);
    x = Bench.fed("3a");
    bench.due("the text ends where n says", x.slip(1, 100), -1001);
  }

  @Says(promise = 15, words = "A SLIP: a TEXT of at most 80 bytes")
  static void promise15_atMost80Bytes(Bench bench) {
    BureauCrown x = new BureauCrown();
    bench.due("80 bytes", Bench.slip(x, Bench.times(16, "((a))", ""), 100), 16);
    bench.due("81 bytes", Bench.slip(x, Bench.times(16, "((a))", "") + "a", 100), -1);
    bench.due("the tape stays", x.count(6), 100);
    bench.due("80 of them", x.slip(80, 100), 16);
  }

  @Says(promise = 15, words = "at most 80 bytes, no blanks")
  static void promise15_noBlanks(Bench bench) {
    letters(bench, " a", -1000);
    letters(bench, "a b", -1001);
    letters(bench, "a ", -1001);
    letters(bench, "2 a", -1001);
    letters(bench, "( a)", -1001);
    letters(bench, "(a )", -1002);
  }

  @Says(promise = 15, words = "empty then")
  static void promise15_emptyThen(Bench bench) {
    BureauCrown x = Bench.fed("abc" + Bench.times(40, " ", ""));
    bench.due("slip(3, 100)", x.slip(3, 100), 3);
    bench.due("tape", x.count(6), 0);
    Bench.feedText(x, "abc!" + Bench.times(40, " ", ""));
    bench.due("a FAULT", x.slip(4, 100), -1003);
    bench.due("tape behind a FAULT", x.count(6), 0);
  }

  @Says(promise = 15, words = "LETTERS a to z one behind the other")
  static void promise15_lettersAToZ(Bench bench) {
    letters(bench, "abcdefghijklmnopqrstuvwxyz", 26);
    is(bench, "a", 101, 0);
    is(bench, "z", 101, 25);
    BureauCrown x = new BureauCrown();
    for (int sign = 0; sign < 256; sign++) {
      if (sign < '2' || sign > '9') {
        Bench.feedBytes(x, sign);
        int due = sign >= 'a' && sign <= 'z' ? 1 : sign == '(' ? -1001 : -1000;
        bench.due("the sign " + sign, x.slip(1, 100), due);
      }
    }
  }

  @Says(promise = 15, words = "ahead of each perhaps a digit 2 to 9 (so many);")
  static void promise15_aDigitAheadOfALetter(Bench bench) {
    letters(bench, "2a", 2);
    letters(bench, "9a", 9);
    letters(bench, "a3b4c", 8);
    is(bench, "a3b", 102, 3);
    is(bench, "a3b", 101, 1);
    letters(bench, "0a", -1000);
    letters(bench, "1a", -1000);
    letters(bench, "22a", -1001);
    letters(bench, "2", -1001);
    letters(bench, "a2", -1002);
    letters(bench, "2)", -1001);
  }

  @Says(promise = 15, words = "or (LETTERS), ahead of it perhaps a digit 2 to 9 (so many times).")
  static void promise15_rounds(Bench bench) {
    letters(bench, "(ab)", 2);
    letters(bench, "2(ab)", 4);
    letters(bench, "9(ab)", 18);
    letters(bench, "x2(a3(bc)d)y", 18);
    letters(bench, "2(ab)3(cd)", 10);
    is(bench, "2(ab)a", 104, 1);
    is(bench, "2(ab)", 104, 0);
    is(bench, "2(a2(bc))", 105, 3);
    is(bench, "2(ab)c2(ba)", 105, 9);
    letters(bench, "1(ab)", -1000);
    letters(bench, "0(ab)", -1000);
    letters(bench, "22(ab)", -1001);
    letters(bench, "()", -1001);
    letters(bench, "2()", -1002);
    letters(bench, "(2)", -1002);
    letters(bench, "(a", -1002);
    letters(bench, "a)", -1001);
    letters(bench, "(a))", -1003);
    letters(bench, "(a()b)", -1003);
  }

  @Says(promise = 15, words = "64 at most in all.")
  static void promise15_64AtMostInAll(Bench bench) {
    letters(bench, Bench.times(64, "a", ""), 64);
    letters(bench, Bench.times(65, "a", ""), -6064);
    letters(bench, LETTERS_63 + "b", 64);
    letters(bench, LETTERS_63 + "2b", -6014);
    letters(bench, "8(8a)", 64);
    letters(bench, "8(8a)b", -6005);
    letters(bench, "2(4(8a))", 64);
    is(bench, "8(8a)", 105, 64);
    is(bench, "8(8a)", 102, 64);
  }

  @Says(promise = 15, words = "FAULTS: 1;")
  static void promise15_fault1(Bench bench) {
    String whole = "a2b(c3(de))";
    int[] due = {1, -1002, 3, -1004, -1005, -1006, -1007, -1008, -1009, -1010, 10};
    for (int n = 1; n <= whole.length(); n++) {
      letters(bench, whole.substring(0, n), due[n - 1]);
    }
    letters(bench, "A", -1000);
    letters(bench, "{", -1000);
    letters(bench, "`", -1000);
    letters(bench, ")", -1000);
    letters(bench, "a;b", -1001);
    letters(bench, "(a!)", -1002);
    BureauCrown x = new BureauCrown();
    Bench.feedBytes(x, 'a', 0);
    bench.due("a byte of 0 is no end", x.slip(2, 100), -1001);
    Bench.feedBytes(x, 'a', 255);
    bench.due("a byte of 255 is no end", x.slip(2, 100), -1001);
  }

  @Says(promise = 15, words = "5 a third ( that is open in another one, at it;")
  static void promise15_fault5AThirdRound(Bench bench) {
    letters(bench, "((a))", 1);
    letters(bench, "(((a)))", -5002);
    letters(bench, "(((", -5002);
    letters(bench, "2(2(2(a)))", -5005);
    letters(bench, "((a)b(c)d)", 4);
    letters(bench, "(a)(b)(c)(d)", 4);
    letters(bench, "((a)((b)))", -5005);
    letters(bench, "a(b(c(", -5005);
  }

  @Says(promise = 15, words = "6 more than 64, at the first byte of what (or its digit) by which they are")
  static void promise15_fault6MoreThan64(Bench bench) {
    letters(bench, LETTERS_63 + "bc", -6015);
    letters(bench, LETTERS_63 + "2b", -6014);
    letters(bench, LETTERS_63 + "b2c", -6015);
    letters(bench, LETTERS_63 + "9(b)", -6014);
    letters(bench, "9(8a)", -6000);
    letters(bench, "b9(8a)", -6001);
    letters(bench, Bench.times(80, "a", ""), -6064);
    letters(bench, LETTERS_63 + "bc!", -6015);
  }

  @Says(promise = 15, words = "(asked when it ends;")
  static void promise15_fault6IsAskedWhenItEnds(Bench bench) {
    letters(bench, "9(8a", -1004);
    letters(bench, "9(8a!", -1004);
    letters(bench, "9(8a!)", -1004);
    letters(bench, "9(8a)!", -6000);
    letters(bench, "8(8a)2", -1006);
    letters(bench, "8(8a)2!", -1006);
    letters(bench, "8(8a)2(", -1007);
    letters(bench, "8(8a)!", -1005);
    letters(bench, "9(8((", -5004);
  }

  @Says(promise = 15, words = "of an inner one first)")
  static void promise15_fault6OfAnInnerOneFirst(Bench bench) {
    letters(bench, "2(9(9a))", -6002);
    letters(bench, "2(5(9a))", -6000);
    letters(bench, "(" + Bench.times(8, "9a", "") + ")", -6015);
    letters(bench, "9(" + LETTERS_63 + "2b)", -6016);
    letters(bench, "9(9(" + LETTERS_63 + "2b))", -6018);
    // In all: those ahead of an open ( count for an inner one, too.
    letters(bench, LETTERS_63 + "b(c)", -6016);
    letters(bench, LETTERS_63 + "2(bc)", -6017);
    letters(bench, LETTERS_63 + "2(b)", -6014);
  }

  @Says(promise = 15, words = "what 0 to 25 how many of a, e, i, o, u SHIFTED by what")
  static void promise15_whatIsAShift(Bench bench) {
    is(bench, "banana", 0, 3);
    is(bench, "aeioubcd", 0, 5);
    is(bench, "aeioubcd", 25, 1);
    is(bench, "abcdefghijklmnopqrstuvwxyz", 0, 5);
    for (int k = 0; k < 26; k++) {
      is(bench, "abcdefghijklmnopqrstuvwxyz", k, 5);
    }
  }

  @Says(promise = 15, words = "SHIFTED by k (0 to 25: each LETTER so many on, round): how many are a, e, i, o, u then;")
  static void promise15_shiftedRound(Bench bench) {
    is(bench, "z", 0, 0);
    is(bench, "z", 1, 1);
    is(bench, "z", 5, 1);
    is(bench, "z", 9, 1);
    is(bench, "z", 15, 1);
    is(bench, "z", 21, 1);
    is(bench, "z", 25, 0);
    is(bench, "b", 25, 1);
    is(bench, "zyx", 1, 1);
    is(bench, "zyx", 3, 1);
    is(bench, "vbfjp", 25, 5);
    is(bench, "2(vv)", 25, 4);
  }

  @Says(promise = 15, words = "100 LETTERS")
  static void promise15_what100(Bench bench) {
    is(bench, "a", 100, 1);
    is(bench, "3a2(b2c)", 100, 9);
  }

  @Says(promise = 15, words = "Of a SLIP: how many LETTERS;")
  static void promise15_howManyLetters(Bench bench) {
    is(bench, "abc", 100, 3);
    is(bench, "2(a2(bc)d)", 100, 12);
  }

  @Says(promise = 15, words = "101 the most often one (0 to 25), 102 how often")
  static void promise15_what101And102(Bench bench) {
    is(bench, "banana", 101, 0);
    is(bench, "banana", 102, 3);
    is(bench, "zbz", 101, 25);
    is(bench, "zbz", 102, 2);
    is(bench, "a9(7z)", 101, 25);
    is(bench, "a9(7z)", 102, 63);
  }

  @Says(promise = 15, words = "A SLIP by the first n bytes of the tape (1 to 80;")
  static void promise15_nothingIsLeftOfTheOneBefore(Bench bench) {
    BureauCrown x = new BureauCrown();
    for (int k = 0; k < 3; k++) {
      bench.due("a long one", Bench.slip(x, "9(7a)z", 102), 63);
      bench.due("a faulty one", Bench.slip(x, "9(7b)!", 102), -1005);
      bench.due("LETTERS", Bench.slip(x, "bcb", 100), 3);
      bench.due("the most often one", Bench.slip(x, "bcb", 101), 1);
      bench.due("how often", Bench.slip(x, "bcb", 102), 2);
      bench.due("by which k most", Bench.slip(x, "bcb", 103), 3);
      bench.due("the same from behind", Bench.slip(x, "bcb", 104), 1);
      bench.due("the longest such row", Bench.slip(x, "bca", 105), 1);
      bench.due("SHIFTED", Bench.slip(x, "bcb", 25), 2);
    }
  }

  @Says(promise = 15, words = "the LETTER that is most often (of like ones the lowest), how often;")
  static void promise15_ofLikeOnesTheLowest(Bench bench) {
    is(bench, "zyxzyx", 101, 23);
    is(bench, "zyxzyx", 102, 2);
    is(bench, "za", 101, 0);
    is(bench, "az", 101, 0);
    is(bench, "zzyya", 101, 24);
  }

  @Says(promise = 15, words = "103 by which k most")
  static void promise15_what103(Bench bench) {
    is(bench, "aeiou", 103, 0);
    is(bench, "bfjpv", 103, 25);
    is(bench, "zdhnt", 103, 1);
  }

  @Says(promise = 15, words = "by which k that is most (of like ones the least);")
  static void promise15_ofLikeOnesTheLeast(Bench bench) {
    is(bench, "b", 103, 3);
    is(bench, "z", 103, 1);
    is(bench, "a", 103, 0);
    is(bench, "abcdefghijklmnopqrstuvwxyz", 103, 0);
    is(bench, "aab", 103, 0);
    is(bench, "abb", 103, 3);
  }

  @Says(promise = 15, words = "104 the same from behind")
  static void promise15_what104(Bench bench) {
    is(bench, "abcba", 104, 1);
    is(bench, "abcbb", 104, 0);
    is(bench, "8(8a)", 104, 1);
    is(bench, LETTERS_63 + "b", 104, 0);
  }

  @Says(promise = 15, words = "is it the same read from behind (1, 0);")
  static void promise15_theSameReadFromBehind(Bench bench) {
    is(bench, "a", 104, 1);
    is(bench, "aa", 104, 1);
    is(bench, "ab", 104, 0);
    is(bench, "abba", 104, 1);
    is(bench, "abca", 104, 0);
    is(bench, "abab", 104, 0);
    is(bench, "(ab)(ba)", 104, 1);
  }

  @Says(promise = 15, words = "105 the longest such row")
  static void promise15_what105(Bench bench) {
    is(bench, "banana", 105, 5);
    is(bench, "abcddcx", 105, 4);
    is(bench, "8(8a)", 105, 64);
  }

  @Says(promise = 15, words = "how many LETTERS the longest row in it has that is.")
  static void promise15_theLongestRow(Bench bench) {
    is(bench, "a", 105, 1);
    is(bench, "abc", 105, 1);
    is(bench, "aab", 105, 2);
    is(bench, "baa", 105, 2);
    is(bench, "xabcba", 105, 5);
    is(bench, "abcbax", 105, 5);
    is(bench, LETTERS_63 + "b", 105, 63);
    is(bench, "b" + LETTERS_63, 105, 63);
  }

  @Says(promise = 15, words = "a FAULT: -1000 times its number, less its place")
  static void promise15_theAnswerOfAFault(Bench bench) {
    int[] whats = {0, 25, 100, 101, 102, 103, 104, 105};
    for (int what : whats) {
      is(bench, "ab!", what, -1002);
      is(bench, "(((", what, -5002);
      is(bench, "9(8a)", what, -6000);
    }
    letters(bench, Bench.times(26, "(a)", "") + "!", -1078);
  }

  @Says(promise = 15, words = "NONE: no such ones")
  static void promise15_noSuchOnes(Bench bench) {
    BureauCrown x = Bench.fed(Bench.times(80, "(a)", "").substring(0, 100));
    int[] whats = {-1, 26, 99, 106, Integer.MAX_VALUE, Integer.MIN_VALUE};
    for (int what : whats) {
      bench.due("slip(3, " + what + ")", x.slip(3, what), -1);
      bench.due("the tape stays", x.count(6), 100);
    }
    int[] none = {0, -1, 81, Integer.MAX_VALUE, Integer.MIN_VALUE};
    for (int n : none) {
      bench.due("slip(" + n + ", 100)", x.slip(n, 100), -1);
      bench.due("the tape stays", x.count(6), 100);
    }
    bench.due("slip(78, 100)", x.slip(78, 100), 26);
  }

  @Says(promise = 15, words = "it has not so many (the tape stays)")
  static void promise15_itHasNotSoMany(Bench bench) {
    BureauCrown x = new BureauCrown();
    bench.due("slip(1, 100) of an empty tape", x.slip(1, 100), -1);
    Bench.feedText(x, "abcdefghijklmnopqrst");
    bench.due("slip(21, 100) of 20 bytes", x.slip(21, 100), -1);
    bench.due("the tape stays", x.count(6), 20);
    bench.due("slip(20, 100) of 20 bytes", x.slip(20, 100), 20);
  }
}
