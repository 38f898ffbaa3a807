/** Promises 28 to 32: rules. */
public final class RulesTest {

  private static final String DEEP = "((((((((s>0))))))))";

  public static void main(String[] args) {
    faults();
    faultsOfDepth();
    faultsOfTheGreatestSize();
    faultRefusals();
    ruleNumbers();
    ruleRefusals();
    fields();
    fieldsToTheWest();
    fieldsWhenItFalls();
    sumsAndTests();
    ands();
    tell();
    breach();
    climb();
    Due.finish();
  }

  private static void faultOf(String text, int due) {
    MastWind x = new MastWind();
    Due.lay(x, 2, text);
    Due.is("fault of " + text, x.fault(2), due);
    Due.is("rule " + text, x.rule(2), due == -4 ? 0 : -100 - due);
    Due.is("RULES behind " + text, x.told(6), due == -4 ? 1 : 0);
  }

  private static void faults() {
    String[] good = {"s>0", "0=0", "9999<1000", "l+i-c+o-h+p-k=0", "!s>0", "!!s>0", "(s>0)", "!(!s>0)", "((s>0))",
        "s>0&l<1", "s>0|l<1", "s>0&l<1|h=1&p=2", "(s>0|l<1)&!(h=1)", "1+1+1<2-2-2", DEEP,
        "((((((((s>0))))))))&((((((((s>0))))))))"};
    for (String text : good) {
      faultOf(text, -4);
    }
    faultOf("", 0);
    faultOf("x>0", 0);
    faultOf(" s>0", 0);
    faultOf(")", 0);
    faultOf("&s>0", 0);
    faultOf("+s>0", 0);
    faultOf("-1<0", 0);
    faultOf("s", 1);
    faultOf("s 0", 1);
    faultOf("ss>0", 1);
    faultOf("s1>0", 1);
    faultOf("s&l>0", 1);
    faultOf("s>", 2);
    faultOf("s>>0", 2);
    faultOf("s>=0", 2);
    faultOf("s>!0", 2);
    faultOf("s>(0)", 2);
    faultOf("s>0>1", 3);
    faultOf("s>0)", 3);
    faultOf("s>0(", 3);
    faultOf("s>0!", 3);
    faultOf("s>0 ", 3);
    faultOf("s>0&", 4);
    faultOf("s>0&&l>0", 4);
    faultOf("s>0|", 4);
    faultOf("s>0||l>0", 4);
    faultOf("s>00", 3);
    faultOf("s>01", 3);
    faultOf("s>0+", 4);
    faultOf("s>0+-1", 4);
    faultOf("01>s", 1);
    faultOf("00>s", 1);
    faultOf("12345>s", 4);
    faultOf("s>12345", 6);
    faultOf("s>10000", 6);
    faultOf("12a", 2);
    faultOf("!", 1);
    faultOf("!&", 1);
    faultOf("(", 1);
    faultOf("()", 1);
    faultOf("(s>0", 4);
    faultOf("(s)>0", 2);
    faultOf("(s>0)>0", 5);
    faultOf("(s>0)+1>0", 5);
    faultOf("(s>0))", 5);
    faultOf("(s>0)(l>0)", 5);
    faultOf("(s>0)!", 5);
    faultOf("(s>0)&", 6);
    faultOf("s>0&x", 4);
    faultOf("s>0" + (char) ('&' + 128), 3);
  }

  private static void faultsOfDepth() {
    faultOf("(" + DEEP + ")", 8);
    faultOf("(((((((((", 8);
    faultOf("((((((((", 8);
    faultOf("((((((((s>0)))))))", 18);
    faultOf("((((((((s>0)))))))))", 19);
    faultOf("((((((((s>0)&(s>0))))))))", -4);
    faultOf("((((((((s>0&(s>0))))))))", 12);
    // There may be any number of ! , with or without ( behind them.
    StringBuilder text = new StringBuilder();
    for (int i = 0; i < 117; i++) {
      text.append('!');
    }
    faultOf(text.toString() + "s>0", -4);
    faultOf(text.toString() + "!!!", 120);
  }

  private static void faultsOfTheGreatestSize() {
    String[] ends = {"!", "(", "s", "s+", "1", "s>", "s>1-", "s>1&", "s>1|", "(s>1", "!(s>1&s"};
    for (String end : ends) {
      faultOf(full(end), 120);
    }
    faultOf(full("s>1"), -4);
    faultOf(full("(s>123)"), -4);
    faultOf(full("s>00"), 119);
    faultOf(full("s>12345"), 119);
    faultOf(full("s>1)"), 119);
  }

  /** A text of 120 bytes: many of s>0& and the end that is wanted. */
  private static String full(String end) {
    StringBuilder text = new StringBuilder();
    while ((120 - end.length() - text.length()) % 4 != 0) {
      text.append('!');
    }
    while (text.length() + end.length() < 120) {
      text.append("s>0&");
    }
    return text.append(end).toString();
  }

  private static void faultRefusals() {
    MastWind x = Due.mast("p0 10 1 10 9;");
    Due.is("fault(-1)", x.fault(-1), -1);
    Due.is("fault(8)", x.fault(8), -1);
    Due.is("fault(0)", x.fault(0), -11);
    x.keep(0, 1, 0);
    Due.is("a PIECE", x.fault(0), -12);
    Due.lay(x, 0, 1, 's', '>', '0');
    Due.is("shorts", x.fault(0), -12);
    Due.lay(x, 0, 2, 's', '>', '0');
    Due.is("ints", x.fault(0), -12);
    Due.is("RULES", x.told(6), 0);
  }

  private static void ruleNumbers() {
    MastWind x = Due.mast("p0 10 1 10 9;");
    Due.lay(x, 0, "h=3");
    for (int i = 0; i < 12; i++) {
      Due.is("rule(0)", x.rule(0), i);
    }
    Due.is("rule(0), no room", x.rule(0), -2);
    Due.is("RULES", x.told(6), 12);
    Due.is("RULES told", x.told(7), 12);
    Due.is("rule(8), no room", x.rule(8), -1);
    Due.is("rule(-1), no room", x.rule(-1), -1);
    Due.is("nothing held, no room", x.rule(1), -2);
    Due.lay(x, 1, 1, 's');
    Due.is("no bytes, no room", x.rule(1), -2);
    Due.lay(x, 1, "s");
    Due.is("a FAULT, no room", x.rule(1), -2);
    // A RULE is not what stands on the SHELF later on.
    x.put(0, 2, '4');
    Due.is("breach(0, 3)", x.breach(0, 3), 0);
    Due.is("breach(0, 4)", x.breach(0, 4), -4);
  }

  private static void ruleRefusals() {
    MastWind x = Due.mast("p0 10 1 10 9;");
    Due.is("rule(-1)", x.rule(-1), -1);
    Due.is("rule(8)", x.rule(8), -1);
    Due.is("rule(0)", x.rule(0), -11);
    x.keep(0, 1, 0);
    Due.is("a PIECE", x.rule(0), -12);
    Due.lay(x, 0, 2, 's', '>', '0');
    Due.is("ints", x.rule(0), -12);
    Due.lay(x, 0, "");
    Due.is("an empty one", x.rule(0), -100);
    Due.is("RULES", x.told(6), 0);
    // What was begun in one with a FAULT is forgotten in the next one.
    Due.lay(x, 0, "!(!");
    Due.is("one with a FAULT", x.rule(0), -103);
    Due.lay(x, 0, "1=0&(1=1)");
    Due.is("one without", x.rule(0), 0);
    Due.is("breach(0, 0)", x.breach(0, 0), -4);
  }

  /** Whether a text holds for a PIECE in an HOUR; after twelve of them all is as in THE IMAGE. */
  private static void holds(MastWind x, String text, int piece, int hour, boolean due) {
    int before = x.told(6);
    if (before == 12) {
      x.restore();
      before = 0;
    }
    Due.lay(x, 6, text);
    Due.is("rule " + text, x.rule(6), before);
    Due.is(text + " at " + piece + " in " + hour, x.breach(piece, hour), due ? before : -4);
    x.tell(before, false);
  }

  private static MastWind judged() {
    MastWind x = Due.mast("p0 10 1 10 9;p3 20 1 10 9;f100;r0 e 10 1 30;r0 w 10 1 40;r0 e 10 1 0;r0 w 10 1 0;");
    x.becomes(3, 2);
    x.wind(20, 1);
    x.ice(0, 3);
    x.ice(1, 4);
    x.image();
    return x;
  }

  private static void fields() {
    MastWind x = judged();
    // PUSHES are 44 (11 by 4) and 28 (7 by 4): 440 + 560, and 150 - 200 of ROPES: 950.
    Due.is("stand()", x.stand(), 9);
    Due.is("loose()", x.loose(), 4);
    holds(x, "s=20", 0, 7, true);
    holds(x, "l=9", 0, 7, true);
    holds(x, "i=7", 0, 7, true);
    holds(x, "c=1", 0, 7, true);
    holds(x, "o=1", 0, 7, true);
    holds(x, "h=7", 0, 7, true);
    holds(x, "h=7", 0, 8, false);
    holds(x, "p=0", 0, 7, true);
    holds(x, "p=1", 1, 7, true);
    holds(x, "k=0", 0, 7, true);
    holds(x, "k=3", 1, 7, true);
    x.becomes(2, 1);
    holds(x, "c=2&o=0", 1, 7, true);
  }

  private static void fieldsToTheWest() {
    MastWind x = judged();
    x.wind(20, -1);
    // -1000 less 50: the LEAN has its sign.
    Due.is("stand() to the west", x.stand(), -11);
    holds(x, "l<0&l+11=0&s=20", 1, 7, true);
    holds(x, "l<0-11", 1, 7, false);
  }

  private static void fieldsWhenItFalls() {
    MastWind x = judged();
    x.wind(99, 1);
    x.share(1, 200);
    Due.is("stand()", x.stand(), -1000000003);
    holds(x, "l=999", 0, 7, true);
    holds(x, "o=0", 0, 7, true);
    holds(x, "s=99&c=1&i=7", 0, 7, true);
  }

  private static void sumsAndTests() {
    MastWind x = judged();
    holds(x, "9-5-3=1", 0, 0, true);
    holds(x, "9-5+3=7", 0, 0, true);
    holds(x, "1-9999-9999<0-9999", 0, 0, true);
    holds(x, "3<3", 0, 0, false);
    holds(x, "3>3", 0, 0, false);
    holds(x, "3=3", 0, 0, true);
    holds(x, "2<3", 0, 0, true);
    holds(x, "3>2", 0, 0, true);
    holds(x, "2>3", 0, 0, false);
    holds(x, "s+i=27", 0, 0, true);
    holds(x, "27=s+i", 0, 0, true);
    holds(x, "!3=3", 0, 0, false);
    holds(x, "!!3=3", 0, 0, true);
    holds(x, "!3=4", 0, 0, true);
    holds(x, "9999=9999", 0, 0, true);
    holds(x, "0=1000", 0, 0, false);
  }

  private static void ands() {
    MastWind x = judged();
    holds(x, "1=1|1=1&1=0", 0, 0, true);
    holds(x, "(1=1|1=1)&1=0", 0, 0, false);
    holds(x, "1=0&1=1|1=1", 0, 0, true);
    holds(x, "1=0&(1=1|1=1)", 0, 0, false);
    holds(x, "1=0|1=0|1=1", 0, 0, true);
    holds(x, "1=1&1=1&1=0", 0, 0, false);
    holds(x, "1=0|1=0", 0, 0, false);
    holds(x, "!1=0&1=0", 0, 0, false);
    holds(x, "!(1=0&1=0)", 0, 0, true);
    holds(x, "!(1=0)&1=1", 0, 0, true);
    holds(x, "!1=1|1=1", 0, 0, true);
    holds(x, "!(1=1|1=1)", 0, 0, false);
    holds(x, "!(!(1=1)|1=0)", 0, 0, true);
    holds(x, "1=1&!(1=1)|(1=0|1=1)&1=1", 0, 0, true);
    holds(x, DEEP, 0, 0, true);
  }

  private static void tell() {
    MastWind x = Due.mast("p0 10 1 10 9;");
    Due.lay(x, 0, "1=1");
    x.rule(0);
    x.rule(0);
    Due.is("breach(0, 0)", x.breach(0, 0), 0);
    Due.is("told already", x.tell(0, true), 0);
    Due.is("no more", x.tell(0, false), 1);
    Due.is("no more already", x.tell(0, false), 0);
    Due.is("told(7)", x.told(7), 1);
    Due.is("told(6)", x.told(6), 2);
    Due.is("breach(0, 0) by the other", x.breach(0, 0), 1);
    x.tell(1, false);
    Due.is("breach(0, 0) by none", x.breach(0, 0), -4);
    Due.is("again", x.tell(0, true), 1);
    Due.is("breach(0, 0) again", x.breach(0, 0), 0);
    Due.is("tell(2, true)", x.tell(2, true), -1);
    Due.is("tell(-1, false)", x.tell(-1, false), -1);
  }

  private static void breach() {
    MastWind x = Due.mast("p0 10 1 10 9;p0 20 1 10 9;");
    Due.is("without RULES", x.breach(0, 0), -4);
    Due.lay(x, 0, "h>20");
    x.rule(0);
    Due.lay(x, 0, "p=1&h>10");
    x.rule(0);
    Due.is("breach(0, 20)", x.breach(0, 20), -4);
    Due.is("breach(0, 21)", x.breach(0, 21), 0);
    Due.is("breach(1, 10)", x.breach(1, 10), -4);
    Due.is("breach(1, 11)", x.breach(1, 11), 1);
    Due.is("breach(1, 23)", x.breach(1, 23), 0);
    Due.is("breach(2, 0)", x.breach(2, 0), -1);
    Due.is("breach(-1, 0)", x.breach(-1, 0), -1);
    Due.is("breach(0, 24)", x.breach(0, 24), -1);
    Due.is("breach(0, -1)", x.breach(0, -1), -1);
  }

  private static void climb() {
    MastWind x = Due.mast("p0 10 1 10 9;p1 20 1 10 9;p2 30 1 10 9;");
    Due.is("without RULES", x.climb(0), 2);
    Due.lay(x, 0, "p=1&h>10");
    x.rule(0);
    Due.is("climb(10)", x.climb(10), 2);
    Due.is("climb(11), past none that he may not be at", x.climb(11), 0);
    Due.lay(x, 0, "k=2&h<5");
    x.rule(0);
    Due.is("climb(4)", x.climb(4), 1);
    Due.lay(x, 0, "p=0&h=7");
    x.rule(0);
    Due.is("climb(7)", x.climb(7), -4);
    Due.is("climb(23)", x.climb(23), 0);
    Due.is("climb(24)", x.climb(24), -1);
    Due.is("climb(-1)", x.climb(-1), -1);
    MastWind none = new MastWind();
    Due.is("climb(0) without PIECES", none.climb(0), -4);
    Due.is("climb(24) without PIECES", none.climb(24), -1);
  }
}
