/** Promises 33 to 36: ropes drawn anew, pulls read back, the cheapest strengthening. */
public final class SearchTest {

  public static void main(String[] args) {
    order();
    orderByNumbers();
    orderChangesNothing();
    orderRefusals();
    readBack();
    readBackWhenItLeans();
    readBackRefusals();
    offer();
    cheapest();
    cheapestOfSeveral();
    cheapestBeyond99();
    cheapestRefusals();
    Due.finish();
  }

  /*
   * Each ROPE has an ARM of 5 and loses one in ten LEANS, the FOOT gives 50. With one OFF the
   * other's 50 lean the mast by 5. Drawn anew to 100: 5 to its side. Then the other OFF: to the
   * east 9 (at 10 it pulls 99), to the west 10. In the end 0.
   */
  private static MastWind pair(String first, String second) {
    return Due.mast("p0 10 1 0 1;f50;r0 " + first + " 10 20 50;r0 " + second + " 10 20 50;");
  }

  private static void order() {
    MastWind x = pair("e", "w");
    Due.is("the east one first", x.order(3, 100, 9, 100), 16);
    Due.is("either", x.order(3, 100, 10, 9999), 16);
    Due.is("neither", x.order(3, 100, 8, 9999), -4);
    Due.is("too much PULL", x.order(3, 100, 300, 99), -4);
    Due.is("one alone", x.order(1, 50, 5, 50), 0);
    Due.is("the other alone", x.order(2, 50, 5, 50), 1);
    Due.is("LEAN while it is OFF", x.order(1, 50, 4, 50), -4);
    Due.is("PULL while it is OFF", x.order(1, 50, 5, 49), -4);
    // With 90 on the east one 200 is held by 4 times 50.
    Due.is("LEAN with its new TIGHT", x.order(1, 90, 5, 90), 0);
    Due.is("LEAN with its new TIGHT, more", x.order(1, 120, 6, 120), -4);
    Due.is("PULL with its new TIGHT", x.order(1, 90, 5, 89), -4);
    // As long as it isn't drawn anew, a ROPE is as TIGHT as it was.
    Due.is("to 0", x.order(3, 0, 5, 50), 16);
    Due.is("to 0, less LEAN", x.order(3, 0, 4, 50), -4);
    x.tight(0, 0);
    x.tight(1, 0);
    Due.is("from 0 to 0", x.order(3, 0, 0, 1), 16);
    Due.is("from 0 to 1", x.order(3, 1, 0, 1), 16);
    Due.is("from 0 to 999", x.order(1, 999, 300, 9999), 0);
    MastWind y = pair("w", "e");
    Due.is("the one at which to begin", y.order(3, 100, 9, 100), 1);
    Due.is("the first by numbers", y.order(3, 100, 10, 100), 16);
  }

  private static void orderByNumbers() {
    MastWind x = Due.mast("p0 10 1 0 1;f500;r0 e 10 2 9;r0 w 10 2 9;r0 e 10 2 9;r0 w 10 2 9;r0 e 10 2 9;r0 w 10 2 9;",
        "r0 e 10 2 9;r0 w 10 2 9;r0 e 10 2 9;r0 w 10 2 9;r0 e 10 2 9;r0 w 10 2 9;");
    Due.is("six", x.order(0xfc0, 9, 300, 9999), 0xba9876);
    Due.is("others", x.order(0x0a5, 9, 300, 9999), 0x7520);
    Due.is("seven", x.order(0x07f, 9, 300, 9999), -1);
    Due.is("twelve", x.order(0xfff, 9, 300, 9999), -1);
    Due.is("one that isn't there", x.order(0x1001, 9, 300, 9999), -1);
  }

  private static void orderChangesNothing() {
    MastWind x = pair("e", "w");
    x.order(3, 100, 300, 9999);
    x.order(3, 999, 0, 1);
    for (int r = 0; r < 2; r++) {
      Due.is("TIGHT", x.rope(r, 4), 50);
      Due.is("how it is", x.rope(r, 5), 0);
    }
    Due.is("stand()", x.stand(), 0);
  }

  private static void orderRefusals() {
    MastWind x = pair("e", "w");
    Due.is("an empty set", x.order(0, 100, 10, 100), -1);
    Due.is("others", x.order(4, 100, 10, 100), -1);
    Due.is("others too", x.order(7, 100, 10, 100), -1);
    Due.is("a set below 0", x.order(-1, 100, 10, 100), -1);
    Due.is("the last bit", x.order(Integer.MIN_VALUE, 100, 10, 100), -1);
    Due.is("TIGHT -1", x.order(3, -1, 10, 100), -1);
    Due.is("TIGHT 1000", x.order(3, 1000, 10, 100), -1);
    Due.is("LEAN -1", x.order(3, 100, -1, 100), -1);
    Due.is("LEAN 301", x.order(3, 100, 301, 100), -1);
    Due.is("PULL 0", x.order(3, 100, 10, 0), -1);
    Due.is("PULL 10000", x.order(3, 100, 10, 10000), -1);
    x.becomes(1, 2);
    Due.is("one that is OFF", x.order(3, 100, 300, 100), -1);
    Due.is("the other, nothing held by ROPES then", x.order(1, 100, 300, 100), 0);
    x.becomes(1, 1);
    Due.is("one that is CUT", x.order(2, 100, 300, 100), -1);
    x.becomes(1, 0);
    x.becomes(0, 1);
    Due.is("the first one CUT", x.order(3, 100, 300, 100), -1);
    Due.is("without ROPES", new MastWind().order(1, 100, 300, 100), -1);
  }

  private static void readBack() {
    MastWind x = pair("e", "w");
    // TIGHT 49 is held at -1, and 59 at 0; the ROPE pulls what it is TIGHT there.
    Due.is("least", x.readBack(0, 50, 0, 0), 50);
    Due.is("greatest", x.readBack(0, 50, 0, 1), 50);
    Due.is("least, DOUBT 5", x.readBack(0, 50, 5, 0), 45);
    Due.is("greatest, DOUBT 5", x.readBack(0, 50, 5, 1), 55);
    Due.is("least of 0", x.readBack(1, 0, 0, 0), 0);
    Due.is("greatest, DOUBT 99", x.readBack(1, 0, 99, 1), 99);
    Due.is("none", x.readBack(0, 9999, 99, 0), -4);
    Due.is("none", x.readBack(0, 9999, 99, 1), -4);
    Due.is("TIGHT stays", x.rope(0, 4), 50);
    // With a FOOT that gives much: 999 by 5 is held by 9 times 500, and the ROPE pulls 999 there.
    MastWind y = Due.mast("p0 10 1 0 1;f999;r0 e 10 1 50;");
    Due.is("the most there is", y.readBack(0, 999, 0, 1), 999);
    Due.is("the most there is", y.readBack(0, 999, 99, 0), 900);
  }

  private static void readBackWhenItLeans() {
    // Alone, the ROPE's 5 TIGHT are held by the FOOT's 50 a LEAN: at LEAN 10, 20 .. it loses one.
    MastWind x = Due.mast("p0 10 1 0 1;f50;r0 e 10 20 50;");
    // TIGHT 109: 109 at 9 (545 - 500 at 10 less 5 is above 0): at 10 it pulls 108.
    Due.is("greatest of 100 to 108", x.readBack(0, 104, 4, 1), 109);
    Due.is("least of 100 to 108", x.readBack(0, 104, 4, 0), 100);
    x.wind(1, 1);
    x.becomes(0, 2);
    Due.is("OFF", x.readBack(0, 104, 4, 1), -3);
    // It FALLS with most: the FOOT holds 300 at the most.
    MastWind y = Due.mast("p0 10 1 0 1;f1;r0 e 10 1 999;");
    Due.is("stand()", y.stand(), -1000000003);
    Due.is("greatest that doesn't FALL", y.readBack(0, 50, 99, 1), 60);
    Due.is("it would FALL", y.readBack(0, 999, 99, 0), -4);
  }

  private static void readBackRefusals() {
    MastWind x = pair("e", "w");
    x.becomes(1, 1);
    Due.is("CUT", x.readBack(1, 50, 0, 0), -3);
    Due.is("no such ROPE", x.readBack(2, 50, 0, 0), -1);
    Due.is("no such ROPE", x.readBack(-1, 50, 0, 0), -1);
    Due.is("pulls 10000", x.readBack(1, 10000, 0, 0), -1);
    Due.is("pulls -1", x.readBack(1, -1, 0, 0), -1);
    Due.is("DOUBT 100", x.readBack(1, 50, 100, 0), -1);
    Due.is("DOUBT -1", x.readBack(1, 50, -1, 0), -1);
    Due.is("what 2", x.readBack(1, 50, 0, 2), -1);
    Due.is("what -1", x.readBack(1, 50, 0, -1), -1);
  }

  private static void offer() {
    MastWind x = pair("e", "w");
    Due.is("more 0", x.offer(0, 0, 1), -1);
    Due.is("more 100", x.offer(0, 100, 1), -1);
    Due.is("price 0", x.offer(0, 1, 0), -1);
    Due.is("price 1000", x.offer(0, 1, 1000), -1);
    Due.is("no such ROPE", x.offer(2, 1, 1), -1);
    Due.is("no such ROPE", x.offer(-1, 1, 1), -1);
    for (int i = 1; i <= 8; i++) {
      Due.is("offer", x.offer(i % 2, i == 1 ? 1 : 99, i == 1 ? 1 : 999), i);
    }
    Due.is("a ninth", x.offer(0, 1, 1), -2);
    Due.is("a ninth of no ROPE", x.offer(2, 1, 1), -1);
    Due.is("told(9)", x.told(9), 8);
    Due.is("STRETCH stays", x.rope(0, 3), 20);
  }

  private static void cheapestIs(MastWind x, int mark, int price, int set) {
    Due.is("PRICE for " + mark, x.cheapest(0, mark, 0), price);
    Due.is("set for " + mark, x.cheapest(0, mark, 1), set);
  }

  /*
   * ARM 49, the FOOT gives 10, a WIND of 10 is 990. With a STRETCH of 1 it stands at 81 and -82,
   * of 21 at 16 and -17, of 41 at 9 and -10, of 61 at 6 and -7, of 99 at 4 and -5.
   */
  private static MastWind offered() {
    MastWind x = Due.mast("p0 99 1 10 1;f10;r0 w 99 1 0;r0 e 99 1 0;");
    x.offer(0, 20, 30);
    x.offer(1, 20, 25);
    x.offer(0, 40, 50);
    x.offer(1, 40, 60);
    Due.lay(x, 0, 0, 10);
    return x;
  }

  private static void cheapest() {
    MastWind x = offered();
    x.wind(10, 1);
    Due.is("stand()", x.stand(), 81);
    x.wind(10, -1);
    Due.is("stand() to the west", x.stand(), -82);
    cheapestIs(x, 300, 0, 0);
    cheapestIs(x, 82, 0, 0);
    cheapestIs(x, 81, 25, 2);
    cheapestIs(x, 17, 55, 3);
    cheapestIs(x, 16, 90, 1 + 8);
    cheapestIs(x, 9, 135, 2 + 4 + 8);
    cheapestIs(x, 7, 165, 15);
    cheapestIs(x, 6, -4, -4);
    cheapestIs(x, 0, -4, -4);
    Due.is("the WIND stays", x.stand(), -82);
    Due.is("STRETCH stays", x.rope(0, 3) + x.rope(1, 3), 2);
    // A ROPE that isn't WHOLE helps no more.
    x.becomes(1, 1);
    cheapestIs(x, 100, 0, 0);
    cheapestIs(x, 99, -4, -4);
  }

  private static void cheapestOfSeveral() {
    MastWind x = offered();
    // All WINDS must do: without any, 0 is enough; the strongest counts, wherever it is told.
    Due.lay(x, 0, 0, 0);
    cheapestIs(x, 0, 0, 0);
    Due.lay(x, 0, 0, 0, 5, 10, 3);
    cheapestIs(x, 17, 55, 3);
    Due.lay(x, 0, 0, 10, 0, 0, 0, 0, 0, 0, 0);
    cheapestIs(x, 17, 55, 3);
    Due.lay(x, 0, 0, 0, 0, 0, 0, 0, 0, 0, 10);
    cheapestIs(x, 17, 55, 3);
    // Of two alike the least as bits; SHARES hold here too.
    Due.is("offer", x.offer(1, 20, 25), 5);
    cheapestIs(x, 81, 25, 2);
    Due.is("offer", x.offer(0, 21, 29), 6);
    cheapestIs(x, 17, 54, 2 + 32);
    x.share(4, 0);
    cheapestIs(x, 0, 0, 0);
    MastWind bare = Due.mast("p0 10 1 10 1;f50;");
    Due.lay(bare, 0, 0, 20);
    cheapestIs(bare, 8, 0, 0);
    cheapestIs(bare, 7, -4, -4);
    MastWind falls = Due.mast("p0 10 1 10 1;");
    Due.lay(falls, 0, 0, 20);
    cheapestIs(falls, 300, -4, -4);
  }

  private static void cheapestBeyond99() {
    MastWind x = Due.mast("p0 99 1 10 1;f10;r0 w 99 99 0;r0 e 99 1 0;");
    x.offer(1, 99, 3);
    x.offer(1, 99, 4);
    Due.lay(x, 0, 0, 10);
    cheapestIs(x, 5, 3, 1);
    // With a STRETCH of 199 it would be -3.
    cheapestIs(x, 4, -4, -4);
  }

  private static void cheapestRefusals() {
    MastWind x = offered();
    Due.is("MARK 301", x.cheapest(0, 301, 0), -1);
    Due.is("MARK -1", x.cheapest(0, -1, 0), -1);
    Due.is("what 2", x.cheapest(0, 1, 2), -1);
    Due.is("what -1", x.cheapest(0, 1, -1), -1);
    Due.is("SHELF 8", x.cheapest(8, 1, 0), -1);
    Due.is("SHELF -1", x.cheapest(-1, 1, 0), -1);
    Due.is("nothing held, MARK 301", x.cheapest(1, 301, 0), -1);
    Due.is("nothing held", x.cheapest(1, 1, 0), -11);
    x.keep(1, 1, 0);
    Due.is("a PIECE", x.cheapest(1, 1, 0), -12);
    Due.lay(x, 1, 1, 10);
    Due.is("shorts", x.cheapest(1, 1, 0), -12);
    Due.lay(x, 1, 2);
    Due.is("ints, none", x.cheapest(1, 1, 0), -12);
    Due.lay(x, 1, 0);
    Due.is("no SPEEDS", x.cheapest(1, 1, 0), -13);
    Due.lay(x, 1, 0, 1, 1, 1, 1, 1, 1, 1, 1, 1);
    Due.is("nine SPEEDS", x.cheapest(1, 300, 0), -13);
    Due.lay(x, 1, 0, 1, 1, 100);
    Due.is("100 is no SPEED", x.cheapest(1, 300, 0), -13);
    Due.lay(x, 1, 0, -1, 1);
    Due.is("-1 is no SPEED", x.cheapest(1, 0, 1), -13);
    Due.lay(x, 1, 0, 99);
    Due.is("99 is one", x.cheapest(1, 0, 1), -4);
  }
}
