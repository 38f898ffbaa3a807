/** The edges of promises 28 to 32, a method a sentence. */
public final class EdgeRulesTest {

  public static void main(String[] args) {
    p28EndsTooEarly();
    p28FirstByteThatIsWrong();
    p28Fields();
    p28Numbers();
    p28Sums();
    p28Tests();
    p28AndsAndOrs();
    p28EightDeep();
    p28GreatestSize();
    p28Refusals();
    p29Numbers();
    p29TwelveAtMost();
    p29Faults();
    p29RefusalsInOrder();
    p29WhatWasBegunIsForgotten();
    p29StaysAsItWas();
    p30Otherwise();
    p30Refusals();
    p31FieldsOfTheMast();
    p31FieldsWhenItFalls();
    p31FieldsOfPieceAndHour();
    p31Compares();
    p31FromTheLeft();
    p31AndAheadOfOr();
    p31NotBindsToItsTest();
    p31LeastRule();
    p31ToldOnes();
    p31Refusals();
    p32Greatest();
    p32FromZeroOn();
    p32NotAtZero();
    p32Refusals();
    Due.finish();
  }

  // ---- promise 28

  private static void fault(String sentence, String text, int due) {
    MastWind x = new MastWind();
    Due.lay(x, 7, text);
    Edge.is(28, sentence + ", " + text, x.fault(7), due);
    Edge.is(28, "the FAULT alone is told, RULES behind " + text, x.told(6), 0);
  }

  private static void good(String sentence, String text) {
    fault(sentence, text, -4);
  }

  private static final String WHOLE = "!(s<12+l-3|h=0)&!p>9999";

  private static void p28EndsTooEarly() {
    for (int size = 0; size <= WHOLE.length(); size++) {
      boolean isRule = size == 15 || size >= 20;
      fault("the size, if it ends too early", WHOLE.substring(0, size), isRule ? -4 : size);
    }
    fault("an empty ROW", "", 0);
  }

  private static void p28FirstByteThatIsWrong() {
    int[] wrong = {0, 1, 10, 32, 35, 37, 39, 42, 44, 46, 47, 58, 59, 63, 64, 94, 95, 97, 114, 116, 123, 126, 127, -1, -128,
      'S', 'L', 'P'};
    for (int i = 0; i < WHOLE.length(); i++) {
      for (int sign : wrong) {
        MastWind x = new MastWind();
        Due.lay(x, 0, WHOLE);
        x.put(0, i, sign);
        Edge.is(28, "the first byte with which no RULE can go on, " + sign + " at " + i, x.fault(0), i);
      }
    }
  }

  private static void p28Fields() {
    String fields = "slicohpk";
    for (char letter = 'a'; letter <= 'z'; letter++) {
      if (fields.indexOf(letter) >= 0) {
        good("a FIELD", letter + ">0");
        good("a FIELD on the right", "0>" + letter);
        fault("a FIELD of two letters", "" + letter + letter + ">0", 1);
        fault("a FIELD and a digit", letter + "1>0", 1);
      } else {
        fault("no FIELD", letter + ">0", 0);
        fault("no FIELD on the right", "0>" + letter, 2);
      }
    }
  }

  private static void p28Numbers() {
    String[] fine = {"0", "1", "9", "10", "99", "100", "999", "1000", "9999"};
    for (String number : fine) {
      good("1 to 4 digits", number + "=s");
      good("1 to 4 digits on the right", "s=" + number);
    }
    fault("5 digits", "10000=s", 4);
    fault("5 digits on the right", "s=10000", 6);
    fault("5 digits behind +", "s+12345=1", 6);
    fault("0 ahead of others", "01=s", 1);
    fault("0 ahead of 0", "00=s", 1);
    fault("0 ahead of others on the right", "s=01", 3);
    fault("0 ahead of 0 on the right", "s=00", 3);
    fault("0 ahead of others behind -", "s-09=1", 3);
    good("0 behind others", "1010=100");
    fault("a letter behind a NUMBER", "1s=0", 1);
  }

  private static void p28Sums() {
    good("any of + and -", "s+1-l+2-3=h-1+p-k");
    fault("nothing behind +", "s+=1", 2);
    fault("nothing behind -", "s-=1", 2);
    fault("two signs", "s+-1=1", 2);
    fault("a sign ahead of the first ATOM", "-s=1", 0);
    fault("a sign ahead of the first ATOM on the right", "s=-1", 2);
    fault("( in a SUM", "s+(1)=1", 2);
    fault("( round a SUM", "(s)=1", 2);
    fault("! in a SUM", "s=!1", 2);
  }

  private static void p28Tests() {
    good("<", "s<1");
    good(">", "s>1");
    good("=", "s=1");
    fault("two of < > =", "s<=1", 2);
    fault("two of < > =", "s==1", 2);
    fault("two SUMS compared, and a third", "1<s<3", 3);
    fault("a SUM alone", "s", 1);
    fault("a SUM alone ahead of &", "s&l>0", 1);
    good("! TEST", "!s>1");
    good("! ! TEST", "!!s>1");
    good("! ( OR )", "!(s>1)");
    fault("! alone", "!", 1);
    fault("! ahead of &", "!&s>1", 1);
    fault("! behind a TEST", "s>1!", 3);
    fault("( ) without OR", "()", 1);
    fault("( OR ) compared", "(s>1)>1", 5);
    fault("( OR ) in a SUM", "(s>1)+1>1", 5);
    fault("two TESTS without a sign", "(s>1)(s>1)", 5);
    fault("two TESTS without a sign", "s>1(s>1)", 3);
    fault(") too many", "s>1)", 3);
    fault(") too many", "(s>1))", 5);
    fault(") at the beginning", ")", 0);
    fault("( too many", "((s>1)", 6);
  }

  private static void p28AndsAndOrs() {
    good("AND", "s>1&l>1&h>1");
    good("OR", "s>1|l>1|h>1");
    good("both", "s>1|l>1&h>1|o>1");
    good("both in (", "(s>1|l>1&h>1)&(o>1|k>1)");
    fault("& at the beginning", "&s>1", 0);
    fault("| at the beginning", "|s>1", 0);
    fault("& at the end", "s>1&", 4);
    fault("| at the end", "s>1|", 4);
    fault("two &", "s>1&&l>1", 4);
    fault("two |", "s>1||l>1", 4);
    fault("& and |", "s>1&|l>1", 4);
    fault("& ahead of )", "(s>1&)", 5);
    fault("| ahead of )", "(s>1|)", 5);
    fault("& behind (", "(&s>1)", 1);
    fault("a blank", "s>1 &l>1", 3);
  }

  private static String times(String sign, int many) {
    StringBuilder text = new StringBuilder();
    for (int i = 0; i < many; i++) {
      text.append(sign);
    }
    return text.toString();
  }

  private static void p28EightDeep() {
    for (int deep = 0; deep <= 8; deep++) {
      good("( " + deep + " deep", times("(", deep) + "s>1" + times(")", deep));
    }
    fault("( 9 deep", times("(", 9) + "s>1" + times(")", 9), 8);
    fault("( 20 deep", times("(", 20) + "s>1" + times(")", 20), 8);
    fault("( 9 deep with ! ahead of each", times("!(", 9) + "s>1" + times(")", 9), 17);
    good("( 8 deep with ! ahead of each", times("!(", 8) + "s>1" + times(")", 8));
    fault("( 9 deep at the end", "s>1&" + times("(", 8) + "l>1|(h>1)" + times(")", 8), 16);
    good("( 8 deep twice", times("(", 8) + "s>1" + times(")", 8) + "&" + times("(", 8) + "s>1" + times(")", 8));
    good("( many side by side", times("(s>1)&", 16) + "s>1");
    good("( 8 deep at the end", times("(", 7) + "s>1&(l>1)|(h>1)" + times(")", 7));
    fault("just 8 (", times("(", 8), 8);
    fault("just 9 (", times("(", 9), 8);
    fault(") too few of 8", times("(", 8) + "s>1" + times(")", 7), 18);
    fault(") too many of 8", times("(", 8) + "s>1" + times(")", 9), 19);
    good("! has no depth", times("!", 117) + "s>1");
    fault("! alone, 120 of them", times("!", 120), 120);
  }

  private static void p28GreatestSize() {
    good("120 bytes", times("s>0&", 29) + "s>12");
    fault("120 bytes that end too early", times("s>0&", 30), 120);
    fault("120 bytes with a FAULT at the last", times("s>0&", 29) + "s>1)", 119);
    good("119 bytes", times("s>0&", 29) + "s>1");
    String[] ends = {"!", "(", "s", "s+", "1", "s>", "s>1-", "s>1&", "s>1|", "(s>1", "!(s>1&s", "s<9+", "9"};
    for (String end : ends) {
      int blank = (120 - end.length()) % 4;
      String text = times("!", blank) + times("s>0&", (120 - end.length()) / 4) + end;
      fault("the size of 120, if it ends too early", text, 120);
    }
    good("a SUM of 58 ATOMS", "s=" + times("s+", 58) + "1");
  }

  private static void p28Refusals() {
    Edge.refusesEach(28, "fault(d)", Edge::full, (x, d) -> x.fault(d), -1, -1, 8);
    Edge.refuses(28, "fault of nothing", Edge::full, x -> x.fault(6), -11);
    Edge.refuses(28, "fault of nothing, SHELF 7", Edge::full, x -> x.fault(7), -11);
    Edge.refuses(28, "fault of a PIECE", Edge::full, x -> x.fault(3), -12);
    Edge.refuses(28, "fault of shorts", Edge::full, x -> x.fault(1), -12);
    Edge.refuses(28, "fault of ints", Edge::full, x -> x.fault(2), -12);
    Edge.refuses(28, "fault of an empty ROW", Edge::full, x -> x.fault(5), 0);
    Edge.refuses(28, "fault of a text that is none", Edge::full, x -> x.fault(4), 0);
    Edge.refuses(28, "fault of a RULE", Edge::full, x -> x.fault(0), -4);
    MastWind x = new MastWind();
    Due.lay(x, 0, 1, 's', '>', '0');
    Edge.is(28, "a RULE in shorts", x.fault(0), -12);
    Due.lay(x, 0, 2, 's', '>', '0');
    Edge.is(28, "a RULE in ints", x.fault(0), -12);
  }

  // ---- promise 29

  private static MastWind ruled(int many) {
    MastWind x = Edge.full();
    for (int i = x.told(6); i < many; i++) {
      x.rule(0);
    }
    return x;
  }

  private static void p29Numbers() {
    MastWind x = new MastWind();
    Due.lay(x, 0, "h=6");
    for (int i = 0; i < 12; i++) {
      Edge.is(29, "its number", x.rule(0), i);
      Edge.is(29, "RULES", x.told(6), i + 1);
      Edge.is(29, "RULES told", x.told(7), i + 1);
    }
    MastWind y = new MastWind();
    Due.lay(y, 7, "1=1");
    Edge.is(29, "a RULE without PIECES, SHELF 7", y.rule(7), 0);
    Edge.is(29, "the ROW stays", y.element(7, 2), '1');
  }

  private static void p29TwelveAtMost() {
    Edge.is(29, "the twelfth", ruled(11).rule(0), 11);
    Edge.refuses(29, "the thirteenth", () -> ruled(12), x -> x.rule(0), -2);
    MastWind x = ruled(12);
    x.tell(3, false);
    Edge.is(29, "one that isn't told takes its room", x.rule(0), -2);
  }

  private static void p29Faults() {
    String[] texts = {"", "x", "s", "s>0)", WHOLE.substring(0, 14), times("!", 120)};
    int[] due = {-100, -100, -101, -103, -114, -220};
    for (int i = 0; i < texts.length; i++) {
      String text = texts[i];
      MastWind x = new MastWind();
      Due.lay(x, 0, text);
      Edge.is(29, "-100 less the FAULT, " + text, x.rule(0), due[i]);
      Edge.is(29, "RULES then", x.told(6), 0);
      Due.lay(x, 0, "1=1");
      Edge.is(29, "the next one's number", x.rule(0), 0);
    }
  }

  private static void p29RefusalsInOrder() {
    Edge.refusesEach(29, "rule(d)", Edge::full, (x, d) -> x.rule(d), -1, -1, 8);
    Edge.refuses(29, "rule of nothing", Edge::full, x -> x.rule(6), -11);
    Edge.refuses(29, "rule of a PIECE", Edge::full, x -> x.rule(3), -12);
    Edge.refuses(29, "rule of shorts", Edge::full, x -> x.rule(1), -12);
    Edge.refuses(29, "rule of ints", Edge::full, x -> x.rule(2), -12);
    Edge.refuses(29, "rule of an empty ROW", Edge::full, x -> x.rule(5), -100);
    Edge.refuses(29, "rule of a text that is none", Edge::full, x -> x.rule(4), -100);
    Edge.refusesEach(29, "rule(d), no room too", () -> ruled(12), (x, d) -> x.rule(d), -1, -1, 8);
    Edge.refuses(29, "rule of nothing, no room too", () -> ruled(12), x -> x.rule(6), -2);
    Edge.refuses(29, "rule of a PIECE, no room too", () -> ruled(12), x -> x.rule(3), -2);
    Edge.refuses(29, "rule of shorts, no room too", () -> ruled(12), x -> x.rule(1), -2);
    Edge.refuses(29, "rule of an empty ROW, no room too", () -> ruled(12), x -> x.rule(5), -2);
    Edge.refuses(29, "rule of a FAULT, no room too", () -> ruled(12), x -> x.rule(4), -2);
  }

  private static void p29WhatWasBegunIsForgotten() {
    String[] begun = {"!", "!x", "(!", "((!(", "1=1|", "(1=1|1=1", "!!!(1=1|1=1)|!", times("(", 9)};
    String[] none = {"1=0", "(1=0)", "((1=0))", "1=1&(1=0)"};
    for (String first : begun) {
      for (String second : none) {
        MastWind x = Due.mast("p0 10 1 10 9;");
        Due.lay(x, 0, first);
        Edge.is(29, "one with a FAULT, " + first, x.rule(0) <= -100 ? 1 : 0, 1);
        Due.lay(x, 0, second);
        Edge.is(29, "one without, " + second, x.rule(0), 0);
        Edge.is(29, "it doesn't hold, " + second, x.breach(0, 0), -4);
        Due.lay(x, 0, first);
        x.fault(0);
        Edge.is(29, "it doesn't hold behind a FAULT, " + second, x.breach(0, 0), -4);
      }
    }
  }

  private static void p29StaysAsItWas() {
    MastWind x = Due.mast("p0 10 1 10 9;");
    Due.lay(x, 0, "h=3");
    x.rule(0);
    x.put(0, 2, '4');
    Edge.is(29, "the RULE is as it was read", x.breach(0, 3), 0);
    Edge.is(29, "not as the ROW is now", x.breach(0, 4), -4);
    x.keep(0, 0, 0);
    Edge.is(29, "nor is it gone with it", x.breach(0, 3), 0);
    // A short one behind a long one, and the other way round.
    Due.lay(x, 0, times("h=9&", 29) + "h=9");
    x.rule(0);
    Edge.is(29, "the long one does not touch the short one", x.breach(0, 3), 0);
    Edge.is(29, "the long one", x.breach(0, 9), 1);
  }

  // ---- promise 30

  private static void p30Otherwise() {
    MastWind x = ruled(12);
    for (int i = 0; i < 12; i++) {
      x.tell(i, true);
    }
    for (int i = 0; i < 12; i++) {
      Edge.is(30, "told already", x.tell(i, true), 0);
      Edge.is(30, "not told any more", x.tell(i, false), 1);
      Edge.is(30, "not told, again", x.tell(i, false), 0);
      Edge.is(30, "RULES told", x.told(7), 11);
      Edge.is(30, "RULES", x.told(6), 12);
      Edge.is(30, "told again", x.tell(i, true), 1);
      Edge.is(30, "RULES told", x.told(7), 12);
    }
  }

  private static void p30Refusals() {
    Edge.refusesEach(30, "tell(k, true)", Edge::full, (x, k) -> x.tell(k, true), -1, -1, 2, 3, 11, 12);
    Edge.refusesEach(30, "tell(k, false)", Edge::full, (x, k) -> x.tell(k, false), -1, -1, 2, 3, 11, 12);
    Edge.is(30, "tell(0, true) of none", new MastWind().tell(0, true), -1);
    Edge.is(30, "tell(12, true) of twelve", ruled(12).tell(12, true), -1);
    MastWind x = new MastWind();
    Due.lay(x, 0, "h=");
    x.rule(0);
    Edge.is(30, "one with a FAULT isn't there", x.tell(0, false), -1);
  }

  // ---- promise 31

  /** Whether the text holds for a PIECE in an HOUR, as the only RULE. */
  private static void holds(Edge.Make make, String text, int piece, int hour, boolean due) {
    MastWind x = make.mast();
    Due.lay(x, 7, text);
    Edge.is(31, "rule " + text, x.rule(7), 0);
    Edge.is(31, text + " at " + piece + " in " + hour, x.breach(piece, hour), due ? 0 : -4);
  }

  /** At 9, with the third ROPE LOOSE, the fourth one OFF. */
  private static MastWind judged() {
    MastWind x = Due.mast("p0 10 1 10 9;p3 20 1 10 9;f100;r0 e 10 1 30;r0 w 10 1 40;r0 e 10 1 0;r0 w 10 1 0;");
    x.becomes(3, 2);
    x.wind(20, 1);
    x.ice(0, 3);
    x.ice(1, 4);
    return x;
  }

  private static MastWind judgedToTheWest() {
    MastWind x = judged();
    x.wind(20, -1);
    return x;
  }

  private static MastWind judgedFallen() {
    MastWind x = judged();
    x.wind(99, 1);
    x.share(1, 200);
    return x;
  }

  private static MastWind bare() {
    return Due.mast("p0 10 1 0 9;p1 20 1 0 9;p2 30 1 0 9;f99;");
  }

  private static void exactly(Edge.Make make, char field, int value, int piece, int hour) {
    holds(make, field + "=" + value, piece, hour, true);
    holds(make, field + ">" + value, piece, hour, false);
    holds(make, field + "<" + value, piece, hour, false);
  }

  private static void p31FieldsOfTheMast() {
    Edge.is(31, "LEAN", judged().stand(), 9);
    Edge.is(31, "LEAN to the west", judgedToTheWest().stand(), -11);
    Edge.Make east = EdgeRulesTest::judged;
    exactly(east, 's', 20, 0, 0);
    exactly(east, 'l', 9, 0, 0);
    exactly(east, 'i', 7, 0, 0);
    exactly(east, 'c', 1, 0, 0);
    exactly(east, 'o', 1, 0, 0);
    Edge.Make west = EdgeRulesTest::judgedToTheWest;
    exactly(west, 's', 20, 0, 0);
    holds(west, "l+11=0", 0, 0, true);
    holds(west, "l<0", 0, 0, true);
    holds(west, "l=11", 0, 0, false);
    Edge.Make empty = EdgeRulesTest::bare;
    for (char field : "slico".toCharArray()) {
      exactly(empty, field, 0, 0, 0);
    }
    Edge.Make cut = () -> {
      MastWind x = judged();
      x.becomes(2, 1);
      return x;
    };
    exactly(cut, 'c', 2, 0, 0);
    exactly(cut, 'o', 0, 0, 0);
  }

  private static void p31FieldsWhenItFalls() {
    Edge.is(31, "it FALLS", judgedFallen().stand(), Edge.FALLS);
    Edge.Make fallen = EdgeRulesTest::judgedFallen;
    exactly(fallen, 'l', 999, 0, 0);
    exactly(fallen, 'o', 0, 0, 0);
    exactly(fallen, 's', 99, 0, 0);
    exactly(fallen, 'c', 1, 0, 0);
    exactly(fallen, 'i', 7, 0, 0);
    Edge.Make fallenToTheWest = () -> {
      MastWind x = judgedFallen();
      x.wind(99, -1);
      return x;
    };
    exactly(fallenToTheWest, 'l', 999, 0, 0);
  }

  private static void p31FieldsOfPieceAndHour() {
    Edge.Make make = EdgeRulesTest::bare;
    int[] hours = {0, 1, 12, 22, 23};
    for (int hour : hours) {
      exactly(make, 'h', hour, 0, hour);
    }
    for (int piece = 0; piece < 3; piece++) {
      exactly(make, 'p', piece, piece, 0);
      exactly(make, 'k', piece, piece, 0);
    }
    exactly(EdgeRulesTest::judged, 'k', 3, 1, 0);
    exactly(EdgeRulesTest::judged, 'p', 1, 1, 0);
    exactly(EdgeRulesTest::judged, 'h', 5, 1, 5);
  }

  private static void p31Compares() {
    Edge.Make make = EdgeRulesTest::bare;
    String[] signs = {"<", "=", ">"};
    for (int k = 0; k < 3; k++) {
      holds(make, "4" + signs[k] + "5", 0, 0, k == 0);
      holds(make, "5" + signs[k] + "5", 0, 0, k == 1);
      holds(make, "6" + signs[k] + "5", 0, 0, k == 2);
      holds(make, "0-1" + signs[k] + "0", 0, 0, k == 0);
      holds(make, "9999" + signs[k] + "9998+1", 0, 0, k == 1);
    }
  }

  private static void p31FromTheLeft() {
    Edge.Make make = EdgeRulesTest::bare;
    holds(make, "9-5-3=1", 0, 0, true);
    holds(make, "9-5-3=7", 0, 0, false);
    holds(make, "9-5+3=7", 0, 0, true);
    holds(make, "9-5+3=1", 0, 0, false);
    holds(make, "1=9-5-3", 0, 0, true);
    holds(make, times("9999+", 11) + "9999=" + times("9999+", 11) + "9999", 0, 0, true);
    holds(make, times("9999-", 20) + "0<0-9999", 0, 0, true);
  }

  private static void p31AndAheadOfOr() {
    Edge.Make make = EdgeRulesTest::bare;
    String[] values = {"1=0", "1=1"};
    for (int bits = 0; bits < 8; bits++) {
      boolean a = (bits & 1) != 0;
      boolean b = (bits & 2) != 0;
      boolean c = (bits & 4) != 0;
      String first = values[a ? 1 : 0];
      String second = values[b ? 1 : 0];
      String third = values[c ? 1 : 0];
      holds(make, first + "|" + second + "&" + third, 0, 0, a || b && c);
      holds(make, first + "&" + second + "|" + third, 0, 0, a && b || c);
      holds(make, "(" + first + "|" + second + ")&" + third, 0, 0, (a || b) && c);
      holds(make, first + "&(" + second + "|" + third + ")", 0, 0, a && (b || c));
      holds(make, first + "|" + second + "|" + third, 0, 0, a || b || c);
      holds(make, "(" + first + "|" + second + ")&(" + third + ")", 0, 0, (a || b) && c);
      holds(make, "(" + first + "|" + second + ")&(" + third + "|" + third + ")", 0, 0, (a || b) && c);
      holds(make, "(" + first + "&" + second + ")|(" + third + ")", 0, 0, a && b || c);
      holds(make, "((" + first + "|" + second + ")|" + second + ")&((" + third + "))", 0, 0, (a || b) && c);
      holds(make, first + "&" + second + "&" + third, 0, 0, a && b && c);
    }
  }

  private static void p31NotBindsToItsTest() {
    Edge.Make make = EdgeRulesTest::bare;
    String[] values = {"1=0", "1=1"};
    for (int bits = 0; bits < 4; bits++) {
      boolean a = (bits & 1) != 0;
      boolean b = (bits & 2) != 0;
      String first = values[a ? 1 : 0];
      String second = values[b ? 1 : 0];
      holds(make, "!" + first + "&" + second, 0, 0, !a && b);
      holds(make, "!" + first + "|" + second, 0, 0, !a || b);
      holds(make, "!(" + first + "&" + second + ")", 0, 0, !(a && b));
      holds(make, "!(" + first + "|" + second + ")", 0, 0, !(a || b));
      holds(make, "!(" + first + ")|" + second, 0, 0, !a || b);
      holds(make, "!!" + first + "&!" + second, 0, 0, a && !b);
      holds(make, "!(!(" + first + ")&" + second + ")", 0, 0, !(!a && b));
    }
    holds(make, times("!", 117) + "1=1", 0, 0, false);
    holds(make, times("!", 116) + "1=1", 0, 0, true);
    holds(make, times("!(", 8) + "1=1" + times(")", 8), 0, 0, true);
    holds(make, times("!(", 7) + "1=1" + times(")", 7), 0, 0, false);
  }

  private static void p31LeastRule() {
    MastWind x = bare();
    Edge.is(31, "without RULES he MAY be there", x.breach(0, 0), -4);
    String[] texts = {"h=1", "h<3", "h<5", "1=0"};
    for (String text : texts) {
      Due.lay(x, 0, text);
      x.rule(0);
    }
    int[] due = {1, 0, 1, 2, 2, -4};
    for (int hour = 0; hour < due.length; hour++) {
      Edge.is(31, "the least RULE that holds in " + hour, x.breach(0, hour), due[hour]);
    }
    for (int i = 4; i < 11; i++) {
      x.rule(0);
    }
    Due.lay(x, 0, "h=23");
    Edge.is(31, "the twelfth", x.rule(0), 11);
    Edge.is(31, "the last RULE holds", x.breach(2, 23), 11);
    Edge.is(31, "none holds", x.breach(2, 22), -4);
    // One that holds and isn't told, of several AND, is forgotten for the next one.
    MastWind y = bare();
    Due.lay(y, 0, "1=0|1=1|1=0");
    y.rule(0);
    y.tell(0, false);
    Due.lay(y, 0, "1=0|1=0");
    y.rule(0);
    Due.lay(y, 0, "p=1|p=2");
    y.rule(0);
    Edge.is(31, "at PIECE 0 none holds", y.breach(0, 0), -4);
    Edge.is(31, "at PIECE 1 the third one holds", y.breach(1, 0), 2);
    Edge.is(31, "at PIECE 0 still none holds", y.breach(0, 0), -4);
  }

  private static void p31ToldOnes() {
    MastWind x = bare();
    Due.lay(x, 0, "1=1");
    x.rule(0);
    x.rule(0);
    Edge.is(31, "both told", x.breach(0, 0), 0);
    x.tell(0, false);
    Edge.is(31, "the first one isn't told", x.breach(0, 0), 1);
    x.tell(1, false);
    Edge.is(31, "none is told", x.breach(0, 0), -4);
    x.tell(1, true);
    Edge.is(31, "the second one is told again", x.breach(0, 0), 1);
    x.tell(0, true);
    Edge.is(31, "both are told again", x.breach(0, 0), 0);
  }

  private static void p31Refusals() {
    Edge.refusesEach(31, "breach(i, 5)", Edge::full, (x, i) -> x.breach(i, 5), -1, -1, 2, 3, 9, 10);
    Edge.refusesEach(31, "breach(0, hour)", Edge::full, (x, h) -> x.breach(0, h), -1, -1, 24);
    Edge.refuses(31, "breach(2, 24), both", Edge::full, x -> x.breach(2, 24), -1);
    Edge.is(31, "breach(0, 0) of none", new MastWind().breach(0, 0), -1);
    Edge.is(31, "breach(0, 24) without RULES", bare().breach(0, 24), -1);
    Edge.is(31, "breach(0, 23) without RULES", bare().breach(0, 23), -4);
    Edge.changesNothing(31, "breach(0, 5)", Edge::full, x -> x.breach(0, 5));
    Edge.changesNothing(31, "breach(1, 5), it FALLS", Edge::fallen, x -> x.breach(1, 5));
  }

  // ---- promise 32

  private static MastWind climbed(String... texts) {
    MastWind x = bare();
    for (String text : texts) {
      Due.lay(x, 0, text);
      x.rule(0);
    }
    return x;
  }

  private static void p32Greatest() {
    Edge.is(32, "without RULES the top one", climbed().climb(0), 2);
    Edge.is(32, "of one PIECE", Due.mast("p0 1 1 1 1;").climb(23), 0);
    MastWind ten = Due.mast("p0 1 1 0 1;p0 2 1 0 1;p0 3 1 0 1;p0 4 1 0 1;p0 5 1 0 1;",
        "p0 6 1 0 1;p0 7 1 0 1;p0 8 1 0 1;p0 9 1 0 1;p0 10 1 0 1;");
    Edge.is(32, "of ten PIECES", ten.climb(0), 9);
    Edge.is(32, "not at the top one", climbed("p=2").climb(0), 1);
    Edge.is(32, "not by its KIND", climbed("k=2").climb(0), 1);
    Edge.is(32, "in another HOUR", climbed("h=1").climb(0), 2);
    Edge.is(32, "in HOUR 23", climbed("h=23&p=1").climb(23), 0);
    Edge.is(32, "in HOUR 22", climbed("h=23&p=1").climb(22), 2);
  }

  private static void p32FromZeroOn() {
    Edge.is(32, "not at PIECE 1: not above it either", climbed("p=1").climb(0), 0);
    Edge.is(32, "two RULES", climbed("p=2", "p=1").climb(0), 0);
    MastWind x = climbed("p=1");
    x.tell(0, false);
    Edge.is(32, "a RULE that isn't told", x.climb(0), 2);
  }

  private static void p32NotAtZero() {
    Edge.is(32, "not at 0", climbed("p=0").climb(0), -4);
    Edge.is(32, "not at 0 alone, of all", climbed("1=1").climb(0), -4);
    Edge.is(32, "without PIECES", new MastWind().climb(0), -4);
    Edge.is(32, "without PIECES, HOUR 23", new MastWind().climb(23), -4);
  }

  private static void p32Refusals() {
    Edge.refusesEach(32, "climb(hour)", Edge::full, (x, h) -> x.climb(h), -1, -1, 24);
    Edge.is(32, "climb(24) without PIECES", new MastWind().climb(24), -1);
    Edge.is(32, "climb(-1) without PIECES", new MastWind().climb(-1), -1);
    Edge.changesNothing(32, "climb(5)", Edge::full, x -> x.climb(5));
  }
}
