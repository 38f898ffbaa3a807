/** The edges of promises 1 to 7, a method a sentence. */
public final class EdgePartsTest {

  private static final String PIECE = "p0 10 5 7 9;";

  public static void main(String[] args) {
    p1NoPiecesRopesRules();
    p1ZeroAtFirst();
    p1For512Calls();
    p2HowManyStatements();
    p2AtLeastOneStatement();
    p2NumbersOfOneToThreeDigits();
    p2NoZeroAheadOfAnother();
    p2OneBlankBetweenTwo();
    p2NoBlankBehindTheLetter();
    p2EndsTooEarly();
    p2EndsTooEarlyIn120();
    p2FirstByteThatIsWrong();
    p2NumbersOutOfRange();
    p2NumbersAtTheEnds();
    p2HeightAboveTheOneBelow();
    p2PieceThatIsThereAhead();
    p2NoRoomForPieces();
    p2NoRoomForRopes();
    p2KindOneAheadOfKindTwo();
    p2FirstOfKindTwo();
    p2WithAFaultNothing();
    p2BehindWhatThereIs();
    p2Refusals();
    p3WhatThereIs();
    p3WeightAndFaces();
    p3Refusals();
    p4WhatThereIs();
    p4Arm();
    p4Refusals();
    p5WhatItWas();
    p5Refusals();
    p6WhatItWas();
    p6Refusals();
    p7WhatItWas();
    p7Refusals();
    Due.finish();
  }

  // ---- promise 1

  private static void p1NoPiecesRopesRules() {
    MastWind x = new MastWind();
    Edge.is(1, "no PIECES", x.told(0), 0);
    Edge.is(1, "no PIECE 0", x.piece(0, 0), -1);
    Edge.is(1, "no ROPES", x.told(1), 0);
    Edge.is(1, "no ROPE 0", x.rope(0, 0), -1);
    Edge.is(1, "no RULES", x.told(6), 0);
    Edge.is(1, "no RULE 0", x.tell(0, true), -1);
    Edge.is(1, "two objects share nothing", shared(), 0);
  }

  private static int shared() {
    MastWind x = new MastWind();
    MastWind y = new MastWind();
    Due.text(x, PIECE + "f9;r0 e 9 9 9;");
    x.gust(5);
    x.image();
    int sum = y.told(0) + y.told(1) + y.told(5) + y.told(8) + (y.restore() == -3 ? 0 : 1);
    return sum + (y.heft(7) == -11 ? 0 : 1);
  }

  private static void p1ZeroAtFirst() {
    MastWind x = new MastWind();
    Edge.is(1, "the FOOT GIVES 0 at first", x.told(5), 0);
    Edge.is(1, "no TONES of the wind", x.told(8), 0);
    Edge.is(1, "no OFFERS", x.told(9), 0);
    Edge.is(1, "no IMAGE", x.restore(), -3);
    Edge.is(1, "SHELF 0 holds nothing at first", x.toss(0), -11);
    Edge.is(1, "SHELF 7 holds nothing at first", x.toss(7), -11);
    for (int i = 0; i < 5; i++) {
      Edge.is(1, "SHARES are 100 at first, " + i, x.share(i, 100), 100);
    }
    Edge.is(1, "SPEED is 0 at first", x.wind(0, 1), 0);
    MastWind y = Due.mast("p0 10 5 50 9;r0 e 9 9 0;");
    Edge.is(1, "ICE is 0 at first", y.piece(0, 5), 0);
    Edge.is(1, "a ROPE is WHOLE at first", y.rope(0, 5), 0);
    Edge.is(1, "ODDS are 0 at first", y.odds(0, 0), 0);
    Edge.is(1, "PUSH, with a SPEED of 0 at first", y.push(0), 0);
    Edge.is(1, "REST, with a SPEED of 0 at first", y.rest(0), 0);
  }

  private static void p1For512Calls() {
    MastWind x = new MastWind();
    Edge.is(1, "call 1", x.row(0, 2, 120), 0);
    for (int call = 2; call <= 510; call++) {
      Edge.is(1, "call " + call, x.put(0, call % 120, call), 0);
    }
    Edge.is(1, "call 511", x.element(0, 510 % 120), 510);
    Edge.is(1, "call 512", x.element(0, 29), 509);
    MastWind y = new MastWind();
    for (int call = 1; call <= 511; call++) {
      Edge.is(1, "stand(), call " + call, y.stand(), Edge.FALLS);
    }
    Edge.is(1, "tone(0), call 512", y.tone(0), -4);
  }

  // ---- promise 2

  /** The text is refused with this FAULT, and nothing of it comes. */
  private static void fault(String sentence, String text, int due) {
    MastWind x = Due.mast(PIECE, "f77;");
    Edge.is(2, sentence + ", text " + text, Due.text(x, text), due);
    Edge.is(2, "PIECES behind " + text, x.told(0), 1);
    Edge.is(2, "ROPES behind " + text, x.told(1), 0);
    Edge.is(2, "the FOOT behind " + text, x.told(5), 77);
  }

  private static void fine(String sentence, String text, int due) {
    MastWind x = Due.mast(PIECE, "f77;");
    Edge.is(2, sentence + ", text " + text, Due.text(x, text), due);
  }

  private static void p2HowManyStatements() {
    fine("how many STATEMENTS", "f1;", 1);
    fine("how many STATEMENTS", "f1;f2;", 2);
    fine("how many STATEMENTS", "f1;p1 20 5 7 9;r1 w 9 9 9;", 3);
    StringBuilder text = new StringBuilder();
    for (int i = 0; i < 40; i++) {
      text.append("f").append(i % 10).append(";");
    }
    fine("how many STATEMENTS in a ROW of 120", text.toString(), 40);
    MastWind x = Due.mast(text.toString());
    Edge.is(2, "the last STATEMENT is read too", x.told(5), 9);
  }

  private static void p2AtLeastOneStatement() {
    fault("at least one STATEMENT", "", -1000);
    fault("at least one STATEMENT", ";", -1000);
    fine("at least one STATEMENT", "f0;", 1);
  }

  private static final String[] SHAPES = {"f#;", "p# 20 5 7 9;", "p0 # 5 7 9;", "p0 20 # 7 9;", "p0 20 5 # 9;",
    "p0 20 5 7 #;", "r# e 9 9 9;", "r0 w # 9 9;", "r0 e 9 # 9;", "r0 w 9 9 #;"};
  /** Of each of these the least number that is in range, and the greatest one. */
  private static final int[][] RANGES = {{0, 999}, {0, 3}, {11, 99}, {1, 99}, {0, 99}, {1, 99}, {0, 0}, {1, 99}, {1, 99},
    {0, 999}};

  private static String with(String shape, String number) {
    int at = shape.indexOf('#');
    return shape.substring(0, at) + number + shape.substring(at + 1);
  }

  private static void p2NumbersOfOneToThreeDigits() {
    for (String shape : SHAPES) {
      int at = shape.indexOf('#');
      fault("no digit", with(shape, ""), -1000 - at);
      fault("four digits", with(shape, "1234"), -1000 - at - 3);
      fault("four digits, all 0 but the first", with(shape, "1000"), -1000 - at - 3);
      fault("ten digits", with(shape, "4294967296"), -1000 - at - 3);
      fault("a sign ahead of a number", with(shape, "-1"), -1000 - at);
      fault("a sign ahead of a number", with(shape, "+1"), -1000 - at);
      fault("the sign ahead of 0", with(shape, "/"), -1000 - at);
      fault("the sign behind 9", with(shape, ":"), -1000 - at);
      fault("a sign among digits", with(shape, "1:"), -1000 - at - 1);
    }
    fine("three digits", "f999;", 1);
    fine("two digits", "f10;", 1);
    fine("one digit", "f9;", 1);
    fine("three digits behind a ROPE", "r0 e 9 9 100;", 1);
  }

  private static void p2NoZeroAheadOfAnother() {
    for (String shape : SHAPES) {
      int at = shape.indexOf('#');
      fault("0 ahead of another", with(shape, "01"), -1000 - at - 1);
      fault("0 ahead of 0", with(shape, "00"), -1000 - at - 1);
      fault("0 ahead of two", with(shape, "012"), -1000 - at - 1);
    }
    fine("0 alone", "f0;p0 20 5 0 9;r0 e 9 9 0;", 3);
    fine("0 behind another", "f10;p0 20 10 10 10;r0 e 10 10 100;", 3);
  }

  private static void p2OneBlankBetweenTwo() {
    String[] texts = {"p0 20 5 7 9;", "r0 e 9 8 7;"};
    for (String text : texts) {
      for (int i = 0; i < text.length(); i++) {
        if (text.charAt(i) == ' ') {
          fault("two blanks", text.substring(0, i) + " " + text.substring(i), -1000 - i - 1);
          fault("another sign in the place of a blank", text.substring(0, i) + "," + text.substring(i + 1), -1000 - i);
          fault("a tab in the place of a blank", text.substring(0, i) + "\t" + text.substring(i + 1), -1000 - i);
        }
      }
    }
    fault("no blank ahead of a SIDE", "r0e 9 9 9;", -1002);
    fault("no blank behind a SIDE", "r0 e9 9 9;", -1004);
    fault("a blank ahead of ;", "f1 ;", -1002);
    fault("a blank ahead of ;", "p0 20 5 7 9 ;", -1011);
    fault("a blank behind ;", "f1; ", -1003);
    fault("a blank ahead of all", " f1;", -1000);
  }

  private static void p2NoBlankBehindTheLetter() {
    fault("a blank behind p", "p 0 20 5 7 9;", -1001);
    fault("a blank behind r", "r 0 e 9 9 9;", -1001);
    fault("a blank behind f", "f 1;", -1001);
  }

  private static void p2EndsTooEarly() {
    String text = "f12;p0 20 50 70 9;r0 w 30 9 999;f0;";
    for (int size = 0; size <= text.length(); size++) {
      String part = text.substring(0, size);
      if (size > 0 && part.charAt(size - 1) == ';') {
        int many = part.length() - part.replace(";", "").length();
        fine("it ends behind a STATEMENT", part, many);
      } else {
        fault("the size, if it ends too early", part, -1000 - size);
      }
    }
  }

  /** A text of 120 bytes: many of f1; and the end that is wanted. */
  private static String full(String end) {
    StringBuilder text = new StringBuilder();
    while ((120 - end.length() - text.length()) % 3 != 0) {
      text.append("f12;");
    }
    while (text.length() + end.length() < 120) {
      text.append("f1;");
    }
    return text.append(end).toString();
  }

  private static void p2EndsTooEarlyIn120() {
    String text = "p0 20 5 7 9;";
    for (int size = 1; size < text.length(); size++) {
      fault("the size of 120, if it ends too early", full(text.substring(0, size)), -1120);
    }
    fine("120 bytes", full(text), 37);
    text = "r0 w 30 9 999;";
    for (int size = 1; size < text.length(); size++) {
      fault("the size of 120, if it ends too early", full(text.substring(0, size)), -1120);
    }
    fault("120 bytes, the last one wrong", full("x"), -1119);
    fault("120 bytes, the last one wrong", full("f01"), -1119);
    fault("120 bytes, the last STATEMENT not as told", full("p0 10 5 7 9;"), -2108);
  }

  private static void p2FirstByteThatIsWrong() {
    String text = "f12;p0 20 50 70 9;r0 w 30 9 999;f0;";
    int[] wrong = {0, 1, 31, 33, 47, 58, 60, 64, 100, 103, 111, 113, 115, 118, 120, 127, -1, -128, 'F', 'P', 'R', 'E', 'W'};
    for (int i = 0; i < text.length(); i++) {
      for (int sign : wrong) {
        MastWind x = Due.mast(PIECE);
        Due.lay(x, 0, text);
        x.put(0, i, sign);
        Edge.is(2, "the first byte with which no TEXT can go on, " + sign + " at " + i, x.text(0), -1000 - i);
      }
    }
    // Where a number may go on or end, no digit too many and no ; too early.
    fault("a number too few", "p0 20 5 7;", -1009);
    fault("a number too many", "p0 20 5 7 9 1;", -1011);
    fault("a number too few", "r0 e 9 9;", -1008);
    fault("a number too many", "r0 e 9 9 9 9;", -1010);
    fault("a number too many", "f1 2;", -1002);
    fault("a SIDE told twice", "r0 e w 9 9;", -1005);
    fault("a SIDE told twice", "r0 ee 9 9 9;", -1004);
    fault("no SIDE", "r0 9 9 9;", -1003);
  }

  private static void p2NumbersOutOfRange() {
    for (int i = 0; i < SHAPES.length; i++) {
      int least = RANGES[i][0];
      int most = RANGES[i][1];
      if (least > 0) {
        fault("a number too small", with(SHAPES[i], "" + (least - 1)), -2000);
        fault("0 where it isn't in range", with(SHAPES[i], "0"), -2000);
      }
      if (most < 999) {
        fault("a number too large", with(SHAPES[i], "" + (most + 1)), -2000);
        fault("999 where it isn't in range", with(SHAPES[i], "999"), -2000);
        fault("256 and a number in range", with(SHAPES[i], "" + (256 + least)), -2000);
        fault("the letter's place", "f1;" + with(SHAPES[i], "" + (most + 1)), -2003);
      }
    }
  }

  private static void p2NumbersAtTheEnds() {
    int[][] places = {{-1, 5}, {0, 0}, {0, 1}, {0, 2}, {0, 3}, {0, 4}, {1, 0}, {1, 2}, {1, 3}, {1, 4}};
    for (int i = 0; i < SHAPES.length; i++) {
      for (int number : RANGES[i]) {
        MastWind x = Due.mast(PIECE, "f77;");
        String text = with(SHAPES[i], "" + number);
        Edge.is(2, "a number at the end of its range, text " + text, Due.text(x, text), 1);
        int[] at = places[i];
        int got = at[0] < 0 ? x.told(5) : at[0] == 0 ? x.piece(1, at[1]) : x.rope(0, at[1]);
        Edge.is(2, "what came of " + text, got, number);
      }
    }
    Edge.is(2, "HEIGHT 1 of the first one", Due.mast("p0 1 1 0 1;").piece(0, 1), 1);
    Edge.is(2, "HEIGHT 0 of the first one", Due.text(new MastWind(), "p0 0 1 0 1;"), -2000);
    Edge.is(2, "HEIGHT 99 of the first one", Due.mast("p0 99 1 0 1;").piece(0, 1), 99);
    Edge.is(2, "HEIGHT 100 of the first one", Due.text(new MastWind(), "p0 100 1 0 1;"), -2000);
    for (int kind = 0; kind <= 3; kind++) {
      Edge.is(2, "KIND " + kind, Due.mast("p" + kind + " 1 1 0 1;").piece(0, 0), kind);
    }
  }

  private static void p2HeightAboveTheOneBelow() {
    fault("HEIGHT below the one below", "p0 9 5 7 9;", -2000);
    fault("HEIGHT as the one below", "p0 10 5 7 9;", -2000);
    fine("HEIGHT just above the one below", "p0 11 5 7 9;", 1);
    fault("HEIGHT as the one below, of the same text", "p0 11 5 7 9;p0 11 5 7 9;", -2012);
    fine("HEIGHT just above the one below, of the same text", "p0 11 5 7 9;p0 12 5 7 9;", 2);
    fault("not only above the first one", "p0 30 5 7 9;p0 20 5 7 9;", -2012);
    MastWind x = Due.mast("p0 99 1 0 1;");
    Edge.is(2, "none is above 99", Due.text(x, "p0 99 1 0 1;"), -2000);
  }

  private static void p2PieceThatIsThereAhead() {
    fine("a PIECE that was there", "r0 e 9 9 9;", 1);
    fault("a PIECE that isn't there", "r1 e 9 9 9;", -2000);
    fine("a PIECE that came ahead", "p0 20 5 7 9;r1 e 9 9 9;", 2);
    fault("a PIECE that comes behind", "r1 e 9 9 9;p0 20 5 7 9;", -2000);
    fault("one too far", "p0 20 5 7 9;r2 e 9 9 9;", -2012);
    Edge.is(2, "no PIECE at all", Due.text(new MastWind(), "r0 e 9 9 9;"), -2000);
    MastWind x = tenPieces();
    Edge.is(2, "PIECE 9", Due.text(x, "r9 e 9 9 9;"), 1);
    Edge.is(2, "PIECE 10", Due.text(x, "r10 e 9 9 9;"), -2000);
  }

  private static MastWind tenPieces() {
    return Due.mast("p0 1 1 0 1;p0 2 1 0 1;p0 3 1 0 1;p0 4 1 0 1;p0 5 1 0 1;",
        "p0 6 1 0 1;p0 7 1 0 1;p0 8 1 0 1;p0 9 1 0 1;p0 10 1 0 1;");
  }

  private static void p2NoRoomForPieces() {
    MastWind nine = Due.mast("p0 1 1 0 1;p0 2 1 0 1;p0 3 1 0 1;p0 4 1 0 1;p0 5 1 0 1;",
        "p0 6 1 0 1;p0 7 1 0 1;p0 8 1 0 1;p0 9 1 0 1;");
    Edge.is(2, "a tenth and an eleventh PIECE", Due.text(nine, "p0 10 1 0 1;p0 11 1 0 1;"), -2012);
    Edge.is(2, "PIECES then", nine.told(0), 9);
    Edge.is(2, "a tenth PIECE", Due.text(nine, "p0 10 1 0 1;"), 1);
    Edge.is(2, "PIECES then", nine.told(0), 10);
    Edge.refuses(2, "an eleventh PIECE", EdgePartsTest::tenPieces, x -> textAlone(x, "f5;p0 99 1 0 1;"), -2003);
    MastWind full = tenPieces();
    Edge.is(2, "what needs no room still comes", Due.text(full, "f5;r9 e 9 9 9;"), 2);
  }

  /** Reads a text, and leaves SHELF 7 as it was ahead of it: with nothing. */
  private static int textAlone(MastWind x, String text) {
    int answer = Due.text(x, text);
    x.keep(7, 0, 0);
    return answer;
  }

  private static MastWind elevenRopes() {
    String six = "r0 e 9 9 9;r0 w 9 9 9;r0 e 9 9 9;r0 w 9 9 9;r0 e 9 9 9;";
    return Due.mast(PIECE + six, "r0 w 9 9 9;" + six);
  }

  private static void p2NoRoomForRopes() {
    MastWind eleven = elevenRopes();
    Edge.is(2, "ROPES", eleven.told(1), 11);
    Edge.is(2, "a twelfth and a thirteenth ROPE", Due.text(eleven, "r0 e 9 9 9;r0 w 9 9 9;"), -2011);
    Edge.is(2, "ROPES then", eleven.told(1), 11);
    Edge.is(2, "a twelfth ROPE", Due.text(eleven, "r0 e 9 9 8;"), 1);
    Edge.is(2, "ROPE 11 is there", eleven.rope(11, 4), 8);
    Edge.is(2, "a thirteenth ROPE", Due.text(eleven, "f5;r0 w 9 9 9;"), -2003);
    Edge.is(2, "ROPES then", eleven.told(1), 12);
    Edge.is(2, "the FOOT then", eleven.told(5), 0);
    Edge.is(2, "ROPE 12", eleven.rope(12, 0), -1);
    Edge.is(2, "what needs no room still comes", Due.text(eleven, "p0 20 1 0 1;"), 1);
  }

  private static void p2KindOneAheadOfKindTwo() {
    fault("kind 1 behind kind 2", "p4 20 5 7 9;f1", -1014);
    fault("kind 1 at the end, kind 2 at the beginning", "r9 e 0 0 9;p9 0 0 0 0;x", -1022);
    fault("kind 1 in the STATEMENT of kind 2", "p4 20 5 7 9,", -1011);
    fault("kind 1 ahead of kind 2", "f01;p4 20 5 7 9;", -1002);
    MastWind full = tenPieces();
    Edge.is(2, "kind 1 behind no room", Due.text(full, "p0 99 1 0 1;f"), -1013);
  }

  private static void p2FirstOfKindTwo() {
    fault("the first of kind 2", "f1;p4 20 5 7 9;r9 e 9 9 9;p5 20 5 7 9;", -2003);
    fault("a later one that hangs on it", "p0 5 5 7 9;r1 e 9 9 9;", -2000);
    fault("two numbers of one STATEMENT", "f1;f2;p4 100 0 100 0;", -2006);
  }

  private static void p2WithAFaultNothing() {
    String[] texts = {"f5;p1 40 3 4 5;r2 e 2 3 4;p1 40 3 4 5;", "f5;p1 40 3 4 5;r2 e 2 3 4;f", "p1 40 3 4 5;r3 e 1 1 1;"};
    int[] due = {-2026, -1027, -2012};
    for (int i = 0; i < texts.length; i++) {
      String text = texts[i];
      Edge.refuses(2, "with a FAULT nothing comes, text " + text, Edge::full, x -> textAlone(x, text), due[i]);
    }
    MastWind x = Due.mast(PIECE);
    Due.text(x, "p3 20 3 4 5;r1 w 2 3 4;f8;g");
    Edge.is(2, "behind it another comes as the first one", Due.text(x, "p1 15 30 40 50;r1 e 20 30 40;"), 2);
    int[] piece = {1, 15, 30, 40, 50, 0};
    for (int what = 0; what < piece.length; what++) {
      Edge.is(2, "what came, piece(1, " + what + ")", x.piece(1, what), piece[what]);
    }
    int[] rope = {1, 1, 20, 30, 40, 0};
    for (int what = 0; what < rope.length; what++) {
      Edge.is(2, "what came, rope(0, " + what + ")", x.rope(0, what), rope[what]);
    }
  }

  private static void p2BehindWhatThereIs() {
    MastWind x = Edge.full();
    Edge.is(2, "a text more", Due.text(x, "p3 31 1 2 3;f4;r2 w 5 6 7;"), 3);
    Edge.is(2, "PIECES", x.told(0), 3);
    Edge.is(2, "ROPES", x.told(1), 3);
    Edge.is(2, "the FOOT", x.told(5), 4);
    Edge.is(2, "what was there stays: ICE", x.piece(1, 5), 7);
    Edge.is(2, "what was there stays: TIGHT", x.rope(0, 4), 70);
    Edge.is(2, "the new PIECE's HEIGHT", x.piece(2, 1), 31);
    Edge.is(2, "the new ROPE's PIECE", x.rope(2, 0), 2);
    Edge.is(2, "the ROW that is read stays there", x.element(7, 0), 'p');
    Edge.is(2, "the last FOOT told counts", Due.text(x, "f5;f6;"), 2);
    Edge.is(2, "the FOOT", x.told(5), 6);
  }

  private static void p2Refusals() {
    Edge.refusesEach(2, "text(d)", Edge::full, (x, d) -> x.text(d), -1, -1, 8);
    Edge.refuses(2, "text of nothing", Edge::full, x -> x.text(6), -11);
    Edge.refuses(2, "text of nothing, SHELF 7", Edge::full, x -> x.text(7), -11);
    Edge.refuses(2, "text of a PIECE", Edge::full, x -> x.text(3), -12);
    Edge.refuses(2, "text of shorts", Edge::full, x -> x.text(1), -12);
    Edge.refuses(2, "text of ints", Edge::full, x -> x.text(2), -12);
    Edge.refuses(2, "text of an empty ROW", Edge::full, x -> x.text(5), -1000);
    Edge.refuses(2, "text of kind 1", Edge::full, x -> x.text(4), -1003);
    MastWind x = Due.mast(PIECE);
    Due.lay(x, 0, 1, 'f', '1', ';');
    Edge.is(2, "a good text in shorts", x.text(0), -12);
    Due.lay(x, 0, 2, 'f', '1', ';');
    Edge.is(2, "a good text in ints", x.text(0), -12);
    Due.lay(x, 0, 0, 'f', '1', ';');
    Edge.is(2, "a good text in bytes, SHELF 0", x.text(0), 1);
    Due.lay(x, 7, 0, 'f', '2', ';');
    Edge.is(2, "a good text in bytes, SHELF 7", x.text(7), 1);
  }

  // ---- promise 3

  private static void about(MastWind x, int i, int... due) {
    for (int what = 0; what < due.length; what++) {
      Edge.is(3, "piece(" + i + ", " + what + ")", x.piece(i, what), due[what]);
    }
  }

  private static void p3WhatThereIs() {
    MastWind x = Due.mast("p0 1 2 3 4;p1 5 6 7 8;p2 9 10 11 12;p3 13 14 15 16;");
    about(x, 0, 0, 1, 2, 3, 4, 0, 2, 3);
    about(x, 1, 1, 5, 6, 7, 8, 0, 12, 3);
    about(x, 2, 2, 9, 10, 11, 12, 0, 20, 5);
    about(x, 3, 3, 13, 14, 15, 16, 0, 33, 7);
    MastWind ten = tenPieces();
    Edge.is(3, "PIECE 9", ten.piece(9, 1), 10);
    Edge.is(3, "PIECE 10", ten.piece(10, 1), -1);
  }

  private static void weighs(int kind, int mass, int area, int ice, int weight, int faces) {
    MastWind x = Due.mast("p" + kind + " 1 " + mass + " " + area + " 1;");
    x.ice(0, ice);
    String one = " of KIND " + kind + ", MASS " + mass + ", AREA " + area + ", ICE " + ice;
    Edge.is(3, "WEIGHT" + one, x.piece(0, 6), weight);
    Edge.is(3, "FACES" + one, x.piece(0, 7), faces);
  }

  private static void p3WeightAndFaces() {
    weighs(0, 1, 0, 0, 1, 0);
    weighs(0, 99, 99, 20, 119, 109);
    weighs(0, 9, 9, 1, 10, 9);
    weighs(0, 9, 9, 2, 11, 10);
    weighs(0, 9, 9, 19, 28, 18);
    weighs(1, 1, 0, 0, 2, 0);
    weighs(1, 99, 99, 20, 218, 59);
    // Both halves are cut, each for itself: 7 by 2 and 5 by 2 are 5, not 6.
    weighs(1, 9, 7, 5, 23, 5);
    weighs(1, 9, 1, 1, 19, 0);
    weighs(1, 9, 2, 2, 20, 2);
    weighs(2, 1, 0, 0, 2, 0);
    weighs(2, 99, 99, 20, 258, 79);
    weighs(2, 9, 7, 5, 33, 10);
    weighs(2, 9, 1, 1, 21, 1);
    weighs(3, 1, 0, 0, 7, 0);
    weighs(3, 99, 99, 20, 223, 59);
    weighs(3, 9, 7, 5, 28, 5);
  }

  private static void p3Refusals() {
    Edge.refusesEach(3, "piece(i, 0)", Edge::full, (x, i) -> x.piece(i, 0), -1, -1, 2, 3, 9, 10);
    Edge.refusesEach(3, "piece(1, what)", Edge::full, (x, what) -> x.piece(1, what), -1, -1, 8);
    Edge.refuses(3, "piece(2, 8), both", Edge::full, x -> x.piece(2, 8), -1);
    for (int what = 0; what <= 7; what++) {
      int w = what;
      Edge.changesNothing(3, "piece(1, " + what + ")", Edge::full, x -> x.piece(1, w));
    }
    Edge.is(3, "a PIECE of none", new MastWind().piece(0, 0), -1);
  }

  // ---- promise 4

  private static void p4WhatThereIs() {
    MastWind x = Due.mast("p0 20 1 0 1;p0 30 1 0 1;r1 e 2 3 4;r0 w 5 6 7;");
    int[][] due = {{1, 1, 2, 3, 4, 0, 1}, {0, 0, 5, 6, 7, 0, 4}};
    for (int r = 0; r < 2; r++) {
      for (int what = 0; what <= 6; what++) {
        Edge.is(4, "rope(" + r + ", " + what + ")", x.rope(r, what), due[r][what]);
      }
    }
    x.becomes(1, 2);
    x.tight(1, 999);
    Edge.is(4, "how it is", x.rope(1, 5), 2);
    Edge.is(4, "TIGHT", x.rope(1, 4), 999);
    Edge.is(4, "ROPE 10", elevenRopes().rope(10, 6), 4);
    Edge.is(4, "ROPE 11 of eleven", elevenRopes().rope(11, 6), -1);
  }

  private static void p4Arm() {
    // HEIGHT, REACH, and HEIGHT times REACH by (HEIGHT and REACH), cut, 1 at least.
    int[][] arms = {{1, 1, 1}, {1, 99, 1}, {99, 1, 1}, {2, 2, 1}, {3, 3, 1}, {3, 5, 1}, {3, 6, 2}, {4, 4, 2}, {99, 99, 49},
      {98, 99, 49}, {97, 98, 48}, {50, 50, 25}, {50, 49, 24}};
    for (int[] arm : arms) {
      MastWind x = Due.mast("p0 " + arm[0] + " 1 0 1;r0 e " + arm[1] + " 1 0;r0 w " + arm[1] + " 1 0;");
      Edge.is(4, "ARM of HEIGHT " + arm[0] + ", REACH " + arm[1], x.rope(0, 6), arm[2]);
      Edge.is(4, "ARM to the west", x.rope(1, 6), arm[2]);
    }
  }

  private static void p4Refusals() {
    Edge.refusesEach(4, "rope(r, 0)", Edge::full, (x, r) -> x.rope(r, 0), -1, -1, 2, 3, 11, 12);
    Edge.refusesEach(4, "rope(1, what)", Edge::full, (x, what) -> x.rope(1, what), -1, -1, 7);
    Edge.refuses(4, "rope(2, 7), both", Edge::full, x -> x.rope(2, 7), -1);
    for (int what = 0; what <= 6; what++) {
      int w = what;
      Edge.changesNothing(4, "rope(1, " + what + ")", Edge::full, x -> x.rope(1, w));
    }
    Edge.is(4, "a ROPE of none", new MastWind().rope(0, 0), -1);
  }

  // ---- promise 5

  private static void p5WhatItWas() {
    MastWind x = Edge.full();
    for (int was = 0; was <= 2; was++) {
      for (int how = 0; how <= 2; how++) {
        x.becomes(1, was);
        Edge.is(5, "becomes(1, " + how + ")", x.becomes(1, how), was);
        Edge.is(5, "how it is", x.rope(1, 5), how);
        Edge.is(5, "how many are WHOLE", x.told(2), how == 0 ? 2 : 1);
      }
    }
    Edge.is(5, "the other one is as it was", x.rope(0, 5), 0);
    Edge.is(5, "becomes of the last ROPE there may be", twelveRopes().becomes(11, 2), 0);
  }

  private static MastWind twelveRopes() {
    MastWind x = elevenRopes();
    Due.text(x, "r0 w 9 9 9;");
    return x;
  }

  private static void p5Refusals() {
    Edge.refusesEach(5, "becomes(r, 1)", Edge::full, (x, r) -> x.becomes(r, 1), -1, -1, 2, 11, 12);
    Edge.refusesEach(5, "becomes(0, how)", Edge::full, (x, how) -> x.becomes(0, how), -1, -1, 3);
    Edge.refuses(5, "becomes(2, 3), both", Edge::full, x -> x.becomes(2, 3), -1);
    Edge.is(5, "becomes(12, 0) of twelve", twelveRopes().becomes(12, 0), -1);
    Edge.is(5, "becomes(0, 0) of none", new MastWind().becomes(0, 0), -1);
  }

  // ---- promise 6

  private static void p6WhatItWas() {
    MastWind x = Edge.full();
    Edge.is(6, "TIGHT 0", x.tight(1, 0), 60);
    Edge.is(6, "TIGHT", x.rope(1, 4), 0);
    Edge.is(6, "TIGHT 999", x.tight(1, 999), 0);
    Edge.is(6, "TIGHT", x.rope(1, 4), 999);
    Edge.is(6, "TIGHT 1", x.tight(1, 1), 999);
    Edge.is(6, "the other one is as it was", x.rope(0, 4), 70);
    x.becomes(1, 1);
    Edge.is(6, "TIGHT of a CUT one", x.tight(1, 2), 1);
    x.becomes(1, 2);
    Edge.is(6, "TIGHT of one that is OFF", x.tight(1, 3), 2);
    Edge.is(6, "it is still OFF", x.rope(1, 5), 2);
    Edge.is(6, "TIGHT of the last ROPE there may be", twelveRopes().tight(11, 2), 9);
  }

  private static void p6Refusals() {
    Edge.refusesEach(6, "tight(r, 1)", Edge::full, (x, r) -> x.tight(r, 1), -1, -1, 2, 11, 12);
    Edge.refusesEach(6, "tight(0, n)", Edge::full, (x, n) -> x.tight(0, n), -1, -1, 1000);
    Edge.refuses(6, "tight(2, 1000), both", Edge::full, x -> x.tight(2, 1000), -1);
    Edge.is(6, "tight(12, 0) of twelve", twelveRopes().tight(12, 0), -1);
    Edge.is(6, "tight(0, 0) of none", new MastWind().tight(0, 0), -1);
  }

  // ---- promise 7

  private static void p7WhatItWas() {
    MastWind x = Edge.full();
    Edge.is(7, "ICE 20", x.ice(1, 20), 7);
    Edge.is(7, "ICE", x.piece(1, 5), 20);
    Edge.is(7, "ICE 0", x.ice(1, 0), 20);
    Edge.is(7, "ICE", x.piece(1, 5), 0);
    Edge.is(7, "ICE 1", x.ice(1, 1), 0);
    Edge.is(7, "the other one is as it was", x.piece(0, 5), 3);
    Edge.is(7, "ICE of the last PIECE there may be", tenPieces().ice(9, 20), 0);
    for (int kind = 0; kind <= 3; kind++) {
      MastWind one = Due.mast("p" + kind + " 1 1 0 1;");
      Edge.is(7, "ICE of KIND " + kind, one.ice(0, 20), 0);
      Edge.is(7, "ICE of KIND " + kind, one.ice(0, 0), 20);
    }
  }

  private static void p7Refusals() {
    Edge.refusesEach(7, "ice(i, 1)", Edge::full, (x, i) -> x.ice(i, 1), -1, -1, 2, 9, 10);
    Edge.refusesEach(7, "ice(0, n)", Edge::full, (x, n) -> x.ice(0, n), -1, -1, 21);
    Edge.refuses(7, "ice(2, 21), both", Edge::full, x -> x.ice(2, 21), -1);
    Edge.is(7, "ice(10, 0) of ten", tenPieces().ice(10, 0), -1);
    Edge.is(7, "ice(0, 0) of none", new MastWind().ice(0, 0), -1);
  }
}
