/** Promises 22 to 27: ice, ropes that are cut, swings. */
public final class IceTest {

  public static void main(String[] args) {
    odds();
    falls();
    uneven();
    unevenOfManyPieces();
    unevenThatFalls();
    after();
    afterRefusals();
    swings();
    swingsOfFew();
    swingsRefusals();
    years();
    Due.finish();
  }

  private static void odds() {
    MastWind x = Due.mast("p0 20 10 0 5;");
    Due.is("odds(0, 100)", x.odds(0, 100), 0);
    Due.is("odds(0, 101)", x.odds(0, 101), -1);
    Due.is("odds(0, -1)", x.odds(0, -1), -1);
    Due.is("odds(1, 0)", x.odds(1, 0), -1);
    Due.is("odds(-1, 0)", x.odds(-1, 0), -1);
    Due.is("odds(0, 0)", x.odds(0, 0), 100);
    Due.is("odds(0, 1)", x.odds(0, 1), 0);
  }

  private static void falls() {
    MastWind x = Due.mast("p0 1 1 0 5;p0 2 1 0 5;p0 3 1 0 5;p0 4 1 0 5;p0 5 1 0 5;");
    for (int i = 0; i < 5; i++) {
      x.odds(i, 33);
    }
    Due.is("without ICE", x.falls(), 1000000);
    int[] due = {670000, 448900, 300763, 201511, 135012};
    for (int i = 0; i < 5; i++) {
      x.ice(4 - i, 1);
      Due.is("with ICE on " + (i + 1), x.falls(), due[i]);
    }
    // 990000, 663300, 444411, 297755, 199495.
    x.odds(0, 1);
    Due.is("others", x.falls(), 199495);
    x.odds(2, 100);
    Due.is("one falls for sure", x.falls(), 0);
  }

  private static void uneven() {
    // The ROPE pulls 1000 to the east, the WIND takes 400 off, and with ICE 800: 6 or 2.
    MastWind x = Due.mast("p0 10 10 10 9;f100;r0 e 10 1 200;");
    x.wind(20, -1);
    Due.is("without ICE", x.uneven(), 0);
    Due.is("stand()", x.stand(), 6);
    x.ice(0, 20);
    Due.is("stand() with ICE", x.stand(), 2);
    Due.is("uneven()", x.uneven(), 1);
    Due.is("ICE stays", x.piece(0, 5), 20);
    Due.is("stand() then", x.stand(), 2);
    x.wind(20, 1);
    Due.is("with the WIND", x.uneven(), 0);
    // 1000 less 400, with 1 of ICE nothing more: of two alike the least.
    x.wind(20, -1);
    x.ice(0, 1);
    Due.is("alike", x.uneven(), 0);
    // LEAN to the west counts without sign: -14 and -10.
    x.becomes(0, 1);
    x.wind(30, -1);
    x.ice(0, 10);
    Due.is("to the west", x.uneven(), 0);
  }

  private static void unevenOfManyPieces() {
    MastWind x = Due.mast("p0 1 1 0 9;p0 2 1 0 9;p0 3 1 0 9;p0 4 1 0 9;p0 5 1 0 9;p0 6 1 0 9;p0 7 1 0 9;",
        "p0 8 1 0 9;f40;r7 e 8 1 500;");
    x.wind(20, -1);
    for (int i = 0; i < 8; i++) {
      x.ice(i, 20);
    }
    // ICE takes 40 times its HEIGHT from the ROPE's 2000: without that of the first six 1400 is left.
    Due.is("stand()", x.stand(), 14);
    Due.is("the first six", x.uneven(), 63);
    x.ice(0, 0);
    Due.is("the first six that have ICE", x.uneven(), 63);
    x.ice(3, 1);
    Due.is("without one that changes nothing", x.uneven(), 63 - 4);
    x.ice(7, 0);
    Due.is("a later one does not matter", x.uneven(), 63 - 4);
    x.ice(1, 0);
    Due.is("five have ICE: 2 to 6", x.uneven(), 31 - 2);
  }

  private static void unevenThatFalls() {
    MastWind x = Due.mast("p0 10 10 10 9;f2;r0 e 10 1 200;");
    x.wind(20, -1);
    x.ice(0, 20);
    Due.is("stand()", x.stand(), 117);
    Due.is("without ICE it FALLS", x.uneven(), 1);
    x.wind(0, 1);
    Due.is("it FALLS in any case", x.uneven(), 0);
  }

  private static void after() {
    MastWind x = Due.mast("p0 10 1 10 9;f50;r0 e 10 20 50;r0 w 10 20 51;");
    // At 0 REST is -5; at -1 it is 45.
    Due.is("stand()", x.stand(), -1);
    // The east one CUT: -255, and 25 times 5 less: -380 is held by 8 times 50.
    Due.is("after(0)", x.after(0), -8);
    // The west one CUT: 250, and 25 times 5 more (51 by 2 is 25): 375.
    Due.is("after(1)", x.after(1), 7);
    Due.is("it is not CUT", x.rope(0, 5) + x.rope(1, 5), 0);
    Due.is("stand() then", x.stand(), -1);
    x.wind(10, 1);
    // REST is 95 at 0: STAND 1. The east one CUT: 100 - 255 - 125 is -280.
    Due.is("after(0) in the WIND", x.after(0), -6);
    Due.is("after(1) in the WIND", x.after(1), 9);
  }

  private static void afterRefusals() {
    MastWind x = Due.mast("p0 10 1 10 9;f5;r0 e 10 20 400;r0 w 10 20 400;");
    Due.is("stand()", x.stand(), 0);
    // 2000 more and 1000 of JERK is more than 300 times 5.
    Due.is("it FALLS behind", x.after(0), -1000000003);
    Due.is("after(2)", x.after(2), -1000000001);
    Due.is("after(-1)", x.after(-1), -1000000001);
    x.becomes(1, 1);
    x.tight(0, 0);
    Due.is("after(0)", x.after(0), 0);
    Due.is("after(1), CUT", x.after(1), -1000000003);
    x.becomes(1, 2);
    Due.is("after(1), OFF", x.after(1), -1000000003);
    x.wind(99, 1);
    Due.is("after(0), it FALLS ahead", x.after(0), -1000000003);
    Due.is("after(2), it FALLS ahead", x.after(2), -1000000001);
  }

  private static void swingsOf(String name, long many, long greatest, long tiredness, int... elements) {
    MastWind x = new MastWind();
    Due.lay(x, 3, 2, elements);
    Due.is("SWINGS " + name, x.swings(3, 0), many);
    Due.is("greatest " + name, x.swings(3, 1), greatest);
    Due.is("TIREDNESS " + name, x.swings(3, 2), tiredness);
    Due.is("it stays " + name, elements.length == 0 ? 0 : x.element(3, 0), elements.length == 0 ? 0 : elements[0]);
  }

  private static void swings() {
    swingsOf("up", 1, 30, 27, 0, 10, 20, 30);
    swingsOf("up and down", 2, 30, 28, 0, 30, 19);
    swingsOf("with a flat top", 2, 30, 28, 0, 30, 30, 30, 19, 19);
    swingsOf("with a flat step", 1, 30, 27, 0, 10, 10, 30);
    swingsOf("zigzag", 4, 40, 1 + 8 + 27 + 64, 0, 10, -10, 20, -20);
    swingsOf("9 by 10 is 0", 3, 9, 0, 0, 9, 0, 9);
    swingsOf("1000", 1, 1000, 1000000, 0, 1000);
    swingsOf("999", 1, 999, 970299, 0, 999);
    swingsOf("1010", 1, 1010, 1000000, 0, 1010);
    swingsOf("all there is", 2, Integer.MAX_VALUE, 2000000, Integer.MIN_VALUE, Integer.MAX_VALUE, 0);
    swingsOf("flat at both ends", 2, 50, 250, 7, 7, 57, 57, 7, 7);
  }

  private static void swingsOfFew() {
    swingsOf("of none", 0, 0, 0);
    swingsOf("of one", 0, 0, 0, 77);
    swingsOf("of two alike", 0, 0, 0, 77, 77);
    swingsOf("of many alike", 0, 0, 0, 5, 5, 5, 5, 5);
  }

  private static void swingsRefusals() {
    MastWind x = Due.mast("p0 10 1 10 9;");
    Due.is("swings(-1, 0)", x.swings(-1, 0), -1);
    Due.is("swings(8, 0)", x.swings(8, 0), -1);
    Due.is("swings(0, 3)", x.swings(0, 3), -1);
    Due.is("swings(0, -1)", x.swings(0, -1), -1);
    Due.is("swings(0, 0)", x.swings(0, 0), -11);
    x.keep(0, 1, 0);
    Due.is("a PIECE", x.swings(0, 2), -12);
    x.row(0, 1, 3);
    Due.is("shorts", x.swings(0, 2), -12);
    x.row(0, 0, 3);
    Due.is("bytes", x.swings(0, 2), -12);
  }

  private static void years() {
    MastWind x = Due.mast("p0 10 1 10 9;");
    Due.lay(x, 1, 2, 0, 20, 0);
    Due.is("TIREDNESS", x.swings(1, 2), 16);
    Due.is("years(1, 1)", x.years(1, 1), 1);
    Due.is("years(1, 16)", x.years(1, 16), 1);
    Due.is("years(1, 17)", x.years(1, 17), 2);
    Due.is("years(1, 16000000)", x.years(1, 16000000), 1000000);
    Due.is("years(1, 15999984)", x.years(1, 15999984), 999999);
    Due.is("years(1, 15999985)", x.years(1, 15999985), 1000000);
    Due.is("years(1, 1000000000)", x.years(1, 1000000000), 1000000);
    Due.is("years(1, 0)", x.years(1, 0), -1);
    Due.is("years(1, -5)", x.years(1, -5), -1);
    Due.is("years(1, 1000000001)", x.years(1, 1000000001), -1);
    Due.is("years(0, 1000000001)", x.years(0, 1000000001), -1);
    Due.is("years(-1, 1)", x.years(-1, 1), -1);
    Due.is("years(8, 1)", x.years(8, 1), -1);
    Due.is("years(0, 1)", x.years(0, 1), -11);
    x.keep(0, 1, 0);
    Due.is("a PIECE", x.years(0, 1), -12);
    x.row(0, 1, 3);
    Due.is("shorts", x.years(0, 1), -12);
    Due.lay(x, 1, 2, 0, 9, 0);
    Due.is("no TIREDNESS", x.years(1, 1), -4);
    Due.lay(x, 1, 2, 0, 10);
    Due.is("TIREDNESS 1", x.years(1, 77), 77);
    Due.lay(x, 2, 2, 500, 0, 500);
    Due.is("two SWINGS", x.swings(2, 0), 2);
    Due.is("one SWING, behind that", x.swings(1, 0), 1);
    Due.is("the greatest, behind that", x.swings(1, 1), 10);
  }
}
