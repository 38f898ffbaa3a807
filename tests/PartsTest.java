/** Promises 1 to 7: the new object, texts and parts. */
public final class PartsTest {

  private static final String PIECE = "p0 10 5 7 9;";

  public static void main(String[] args) {
    newObject();
    textSyntax();
    textSyntaxOfRopes();
    textOfTheGreatestSize();
    textSense();
    textRoom();
    textComesWholeOrNotAtAll();
    textRefusals();
    pieces();
    ropes();
    becomes();
    tight();
    ice();
    Due.finish();
  }

  private static void newObject() {
    MastWind x = new MastWind();
    for (int what = 0; what <= 9; what++) {
      Due.is("told(" + what + ") of a new object", x.told(what), 0);
    }
    Due.is("piece(0, 0)", x.piece(0, 0), -1);
    Due.is("rope(0, 0)", x.rope(0, 0), -1);
    Due.is("tell(0, true)", x.tell(0, true), -1);
    Due.is("restore()", x.restore(), -3);
    Due.is("rest(300)", x.rest(300), 0);
    Due.is("stand()", x.stand(), -1000000003);
    Due.is("gusts(1)", x.gusts(1), 0);
    Due.is("count(9999)", x.count(9999), 0);
    Due.is("tone(0)", x.tone(0), -4);
    Due.is("falls()", x.falls(), 1000000);
    Due.is("uneven()", x.uneven(), 0);
    Due.is("climb(0)", x.climb(0), -4);
    for (int d = 0; d < 8; d++) {
      Due.is("heft(" + d + ")", x.heft(d), -11);
    }
    for (int i = 0; i < 5; i++) {
      Due.is("share(" + i + ", 1)", x.share(i, 1), 100);
    }
    Due.is("wind(1, -1)", x.wind(1, -1), 0);
  }

  private static void faultOf(String text, int due) {
    MastWind x = Due.mast(PIECE, "f77;");
    Due.is("text " + text, Due.text(x, text), due);
    Due.is("PIECES behind " + text, x.told(0), 1);
    Due.is("ROPES behind " + text, x.told(1), 0);
    Due.is("the FOOT behind " + text, x.told(5), 77);
  }

  private static void textSyntax() {
    faultOf("", -1000);
    faultOf(" ", -1000);
    faultOf("F1;", -1000);
    faultOf("1;", -1000);
    faultOf("f", -1001);
    faultOf("f;", -1001);
    faultOf("f 1;", -1001);
    faultOf("f-1;", -1001);
    faultOf("f1", -1002);
    faultOf("f1 ;", -1002);
    faultOf("f01;", -1002);
    faultOf("f00;", -1002);
    faultOf("f1000;", -1004);
    faultOf("f1;;", -1003);
    faultOf("f1; f2;", -1003);
    faultOf("f1;f", -1004);
    faultOf("f1;f2;g", -1006);
    faultOf("p 0 20 5 7 9;", -1001);
    faultOf("p0", -1002);
    faultOf("p0 ", -1003);
    faultOf("p0  20 5 7 9;", -1003);
    faultOf("p0;", -1002);
    faultOf("p0 20 5 7;", -1009);
    faultOf("p0 20 5 7 9", -1011);
    faultOf("p0 20 5 7 9 ", -1011);
    faultOf("p0 20 5 7 9 1;", -1011);
    faultOf("p0 020 5 7 9;", -1004);
    faultOf("p0 2000 5 7 9;", -1006);
    faultOf("p00 20 5 7 9;", -1002);
    faultOf("f1;p0 20 5 7 9;x", -1015);
    // A byte of 112 + 256 is a p; one above 127 is below 0, and no sign of a TEXT.
    faultOf("f1;" + (char) (112 + 128), -1003);
    faultOf((char) (102 + 256) + "1;x", -1003);
  }

  private static void textSyntaxOfRopes() {
    faultOf("r", -1001);
    faultOf("re 9 9 9;", -1001);
    faultOf("r 0 e 9 9 9;", -1001);
    faultOf("r0e 9 9 9;", -1002);
    faultOf("r0  e 9 9 9;", -1003);
    faultOf("r0 n 9 9 9;", -1003);
    faultOf("r0 E 9 9 9;", -1003);
    faultOf("r0 9 9 9;", -1003);
    faultOf("r0 ", -1003);
    faultOf("r0 e9 9 9;", -1004);
    faultOf("r0 ew 9 9 9;", -1004);
    faultOf("r0 e 9 9;", -1008);
    faultOf("r0 e 9 9 9 9;", -1010);
    faultOf("r0 w 9 9 9", -1010);
    faultOf("r0 w 9 9 00;", -1010);
    faultOf("r0 w 9 9 1000;", -1012);
  }

  /** A text of 120 bytes: many of f1; and the end that is wanted. */
  private static String full(String end) {
    StringBuilder text = new StringBuilder();
    while ((120 - end.length() - text.length()) % 3 != 0) {
      text.append("f12;");
    }
    while (text.length() + end.length() < 120) {
      text.append("f1;");
    }
    return text.append(end).toString();
  }

  private static void textOfTheGreatestSize() {
    String[] ends = {"f", "f1", "f0", "p", "p0", "p0 ", "p0 20 5 7 9", "r", "r0", "r0 ", "r0 e", "r0 e ", "r0 e 9 9 9"};
    for (String end : ends) {
      faultOf(full(end), -1120);
    }
    faultOf(full("x"), -1119);
    faultOf(full("f01"), -1119);
    faultOf(full("p0 10 1 1 1;"), -2108);
    MastWind x = new MastWind();
    Due.is("the greatest number of STATEMENTS", Due.text(x, full("f7;")), 40);
    Due.is("the FOOT", x.told(5), 7);
  }

  private static void textSense() {
    faultOf("p4 20 5 7 9;", -2000);
    faultOf("p999 20 5 7 9;", -2000);
    faultOf("p0 10 5 7 9;", -2000);
    faultOf("p0 9 5 7 9;", -2000);
    faultOf("p0 0 5 7 9;", -2000);
    faultOf("p0 100 5 7 9;", -2000);
    faultOf("p0 20 0 7 9;", -2000);
    faultOf("p0 20 100 7 9;", -2000);
    faultOf("p0 20 5 100 9;", -2000);
    faultOf("p0 20 5 7 0;", -2000);
    faultOf("p0 20 5 7 100;", -2000);
    faultOf("r1 e 9 9 9;", -2000);
    faultOf("r999 e 9 9 9;", -2000);
    faultOf("r0 e 0 9 9;", -2000);
    faultOf("r0 e 100 9 9;", -2000);
    faultOf("r0 e 9 0 9;", -2000);
    faultOf("r0 e 9 100 9;", -2000);
    // The letter of the STATEMENT is told, not that of the number.
    faultOf("f1;p0 20 5 7 9;p0 20 5 7 9;f2;", -2015);
    // A ROPE may hold a PIECE that came ahead of it, not one that comes behind it.
    faultOf("r1 e 9 9 9;p0 20 5 7 9;", -2000);
    // Kind 1 goes ahead of kind 2, wherever it is; of kind 2 the first is told.
    faultOf("p4 20 5 7 9;f1", -1014);
    faultOf("f1;p4 20 5 7 9;r9 e 9 9 9;", -2003);
  }

  private static void textRoom() {
    MastWind x = Due.mast("p0 1 1 0 1;p0 2 1 0 1;p0 3 1 0 1;p0 4 1 0 1;p0 5 1 0 1;");
    Due.is("six PIECES more", Due.text(x,
        "p0 6 1 0 1;p0 7 1 0 1;p0 8 1 0 1;p0 9 1 0 1;p0 10 1 0 1;p0 11 1 0 1;"), -2056);
    Due.is("PIECES then", x.told(0), 5);
    Due.is("five more", Due.text(x, "p0 6 1 0 1;p0 7 1 0 1;p0 8 1 0 1;p0 9 1 0 1;p3 99 99 99 99;"), 5);
    Due.is("PIECES then", x.told(0), 10);
    Due.is("one more", Due.text(x, "f9;p0 99 1 0 1;"), -2003);
    Due.is("the FOOT then", x.told(5), 0);
    String six = "r0 e 1 1 0;r1 w 99 99 999;r9 e 1 1 0;r3 e 1 1 0;r4 e 1 1 0;r5 e 1 1 0;";
    Due.is("six ROPES", Due.text(x, six), 6);
    Due.is("seven ROPES", Due.text(x, six + "r6 e 1 1 0;"), -2070);
    Due.is("ROPES then", x.told(1), 6);
    Due.is("six ROPES", Due.text(x, six), 6);
    Due.is("ROPES then", x.told(1), 12);
    Due.is("one more", Due.text(x, "r0 e 1 1 0;"), -2000);
    Due.is("the FOOT still comes", Due.text(x, "f999;f0;f3;"), 3);
    Due.is("the FOOT", x.told(5), 3);
  }

  private static void textComesWholeOrNotAtAll() {
    MastWind x = Due.mast(PIECE);
    Due.is("ice", x.ice(0, 20), 0);
    Due.is("with a FAULT", Due.text(x, "f5;p1 20 3 4 5;r1 e 2 3 4;p1 20 3 4 5;"), -2026);
    Due.is("PIECES", x.told(0), 1);
    Due.is("ROPES", x.told(1), 0);
    Due.is("the FOOT", x.told(5), 0);
    Due.is("without", Due.text(x, "f5;p1 20 3 4 5;r1 e 2 3 4;p2 21 3 4 5;"), 4);
    Due.is("PIECES", x.told(0), 3);
    Due.is("ROPES", x.told(1), 1);
    Due.is("the FOOT", x.told(5), 5);
    Due.is("with a FAULT of kind 1", Due.text(x, "f6;f7"), -1005);
    Due.is("the next one", Due.text(x, "f5;"), 1);
    Due.is("then", Due.text(x, "p1 20 3 4 5;"), -2000);
    Due.lay(x, 7, "f5;p1 20 3 4 5;");
    Due.is("ICE stays", x.piece(0, 5), 20);
    Due.is("ICE of the new one", x.piece(1, 5), 0);
    // The ROW stays on its SHELF: read again, its PIECE isn't above the last one.
    Due.is("read again", x.text(7), -2003);
    // A place that was left by RESTORE is as new for the next one.
    MastWind y = Due.mast(PIECE);
    y.image();
    Due.text(y, "p1 20 3 4 5;r1 e 2 3 4;");
    y.ice(1, 9);
    y.odds(1, 9);
    y.becomes(0, 2);
    y.restore();
    Due.is("again", Due.text(y, "p1 20 3 4 5;r1 e 2 3 4;"), 2);
    Due.is("ICE", y.piece(1, 5), 0);
    Due.is("ODDS", y.odds(1, 0), 0);
    Due.is("how the ROPE is", y.rope(0, 5), 0);
  }

  private static void textRefusals() {
    MastWind x = Due.mast(PIECE);
    Due.is("text(-1)", x.text(-1), -1);
    Due.is("text(8)", x.text(8), -1);
    Due.is("text(2147483647)", x.text(Integer.MAX_VALUE), -1);
    Due.is("nothing held", x.text(0), -11);
    x.keep(0, 1, 0);
    Due.is("a PIECE", x.text(0), -12);
    Due.lay(x, 1, 1, 'f', '1', ';');
    Due.is("shorts", x.text(1), -12);
    Due.lay(x, 1, 2, 'f', '1', ';');
    Due.is("ints", x.text(1), -12);
    Due.lay(x, 1, 0, 'f', '1', ';');
    Due.is("bytes", x.text(1), 1);
  }

  private static void about(MastWind x, int i, int... due) {
    for (int what = 0; what < due.length; what++) {
      Due.is("piece(" + i + ", " + what + ")", x.piece(i, what), due[what]);
    }
  }

  private static void pieces() {
    MastWind x = Due.mast("p0 10 5 7 9;p1 20 6 9 8;p2 30 7 11 6;p3 99 99 99 99;");
    about(x, 0, 0, 10, 5, 7, 9, 0, 5, 7);
    about(x, 1, 1, 20, 6, 9, 8, 0, 12, 4);
    about(x, 2, 2, 30, 7, 11, 6, 0, 14, 5);
    about(x, 3, 3, 99, 99, 99, 99, 0, 203, 49);
    for (int i = 0; i < 4; i++) {
      Due.is("ice", x.ice(i, 5), 0);
    }
    // 5 + 5 and 7 + 2; 12 + 5 and 4 + 2; 14 + 5 + 10 and 5 + 2 + 5; 198 + 5 + 5 and 49 + 2.
    about(x, 0, 0, 10, 5, 7, 9, 5, 10, 9);
    about(x, 1, 1, 20, 6, 9, 8, 5, 17, 6);
    about(x, 2, 2, 30, 7, 11, 6, 5, 29, 12);
    about(x, 3, 3, 99, 99, 99, 99, 5, 208, 51);
    Due.is("piece(4, 0)", x.piece(4, 0), -1);
    Due.is("piece(-1, 0)", x.piece(-1, 0), -1);
    Due.is("piece(0, 8)", x.piece(0, 8), -1);
    Due.is("piece(0, -1)", x.piece(0, -1), -1);
  }

  private static void ropes() {
    MastWind x = Due.mast("p0 1 5 7 9;p0 99 5 7 9;r0 w 1 2 3;r1 e 99 98 999;r1 w 40 1 0;");
    // 1 by 2 is 0, and so 1; 9801 by 198 is 49; 3960 by 139 is 28.
    int[][] due = {{0, 0, 1, 2, 3, 0, 1}, {1, 1, 99, 98, 999, 0, 49}, {1, 0, 40, 1, 0, 0, 28}};
    for (int r = 0; r < due.length; r++) {
      for (int what = 0; what < due[r].length; what++) {
        Due.is("rope(" + r + ", " + what + ")", x.rope(r, what), due[r][what]);
      }
    }
    Due.is("rope(3, 0)", x.rope(3, 0), -1);
    Due.is("rope(-1, 0)", x.rope(-1, 0), -1);
    Due.is("rope(0, 7)", x.rope(0, 7), -1);
    Due.is("rope(0, -1)", x.rope(0, -1), -1);
  }

  private static void becomes() {
    MastWind x = Due.mast(PIECE, "r0 w 1 2 3;");
    Due.is("CUT", x.becomes(0, 1), 0);
    Due.is("OFF", x.becomes(0, 2), 1);
    Due.is("how it is", x.rope(0, 5), 2);
    Due.is("becomes(0, 3)", x.becomes(0, 3), -1);
    Due.is("becomes(0, -1)", x.becomes(0, -1), -1);
    Due.is("becomes(1, 0)", x.becomes(1, 0), -1);
    Due.is("becomes(-1, 0)", x.becomes(-1, 0), -1);
    Due.is("WHOLE", x.becomes(0, 0), 2);
    Due.is("WHOLE", x.becomes(0, 0), 0);
  }

  private static void tight() {
    MastWind x = Due.mast(PIECE, "r0 w 1 2 3;");
    Due.is("tight(0, 999)", x.tight(0, 999), 3);
    Due.is("tight(0, 1000)", x.tight(0, 1000), -1);
    Due.is("tight(0, -1)", x.tight(0, -1), -1);
    Due.is("tight(1, 0)", x.tight(1, 0), -1);
    Due.is("tight(-1, 0)", x.tight(-1, 0), -1);
    Due.is("tight(0, 0)", x.tight(0, 0), 999);
    Due.is("TIGHT", x.rope(0, 4), 0);
    x.becomes(0, 1);
    Due.is("tight of a CUT one", x.tight(0, 5), 0);
  }

  private static void ice() {
    MastWind x = Due.mast(PIECE);
    Due.is("ice(0, 20)", x.ice(0, 20), 0);
    Due.is("ice(0, 21)", x.ice(0, 21), -1);
    Due.is("ice(0, -1)", x.ice(0, -1), -1);
    Due.is("ice(1, 0)", x.ice(1, 0), -1);
    Due.is("ice(-1, 0)", x.ice(-1, 0), -1);
    Due.is("ice(0, 0)", x.ice(0, 0), 20);
    Due.is("ICE", x.piece(0, 5), 0);
  }
}
