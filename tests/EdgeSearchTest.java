/** The edges of promises 33 to 36, a method a sentence. */
public final class EdgeSearchTest {

  public static void main(String[] args) {
    p33DigitsToTheBase16();
    p33MarksOfLean();
    p33MarksOfPull();
    p33MustNotFall();
    p33WholeWithItsNewTight();
    p33FirstByNumbers();
    p33OneBehindTheOther();
    p33WhatIsAheadIsNotLookedAt();
    p33EndsOfNumbers();
    p33Refusals();
    p34LeastAndGreatest();
    p34EndsOfTight();
    p34WhereItFalls();
    p34AllElseAsNow();
    p34LooseOnes();
    p34None();
    p34Refusals();
    p35HowMany();
    p35NoRoom();
    p35Refusals();
    p36EmptySet();
    p36Marks();
    p36BothSides();
    p36AllSpeeds();
    p36LeastAsBits();
    p36StaysAt99();
    p36OffersOfTwoRopes();
    p36ManyOffers();
    p36RowOfSpeeds();
    p36None();
    p36Refusals();
    Due.finish();
  }

  /**
   * ARMS are 1, and a PULL is the TIGHT at all l: THE STAND is where what TIGHT there is to the east is
   * more than to the west. The ROPES go to the east and the west by turns.
   */
  private static MastWind held(int... tights) {
    StringBuilder text = new StringBuilder("p0 1 1 0 1;f1;");
    StringBuilder more = new StringBuilder("f1;");
    for (int i = 0; i < tights.length; i++) {
      (i < 6 ? text : more).append("r0 ").append(i % 2 == 0 ? 'e' : 'w').append(" 1 1 ").append(tights[i]).append(';');
    }
    return Due.mast(text.toString(), more.toString());
  }

  private static void orders(MastWind x, int set, int tight, int lean, int pull, long due) {
    Edge.is(33, "order(" + set + ", " + tight + ", " + lean + ", " + pull + ")", x.order(set, tight, lean, pull), due);
  }

  // ---- promise 33

  private static MastWind twelve() {
    return held(9, 9, 9, 9, 9, 9, 9, 9, 9, 9, 9, 9);
  }

  private static void p33DigitsToTheBase16() {
    orders(twelve(), 1, 9, 300, 9999, 0);
    orders(twelve(), 2, 9, 300, 9999, 1);
    orders(twelve(), 1 << 11, 9, 300, 9999, 11);
    orders(twelve(), 3, 9, 300, 9999, 0x10);
    orders(twelve(), 0xc00, 9, 300, 9999, 0xba);
    orders(twelve(), 0x03f, 9, 300, 9999, 0x543210);
    orders(twelve(), 0xfc0, 9, 300, 9999, 0xba9876);
    orders(twelve(), 0x801, 9, 300, 9999, 0xb0);
  }

  private static void p33MarksOfLean() {
    // The east one OFF: -100; the west one OFF: 100.
    orders(held(100, 100), 1, 100, 100, 9999, 0);
    orders(held(100, 100), 1, 100, 99, 9999, -4);
    orders(held(100, 100), 2, 100, 100, 9999, 1);
    orders(held(100, 100), 2, 100, 99, 9999, -4);
    // Drawn anew: 150 and 50 to the east.
    orders(held(100, 100), 1, 250, 150, 9999, 0);
    orders(held(100, 100), 1, 250, 149, 9999, -4);
    orders(held(100, 100), 2, 250, 150, 9999, 1);
    orders(held(100, 100), 2, 250, 149, 9999, -4);
    // MARK 0: what is OFF was not TIGHT at all.
    orders(held(0, 0), 3, 0, 0, 1, 0x10);
    orders(held(0, 0), 3, 1, 0, 1, -4);
    orders(held(0, 0), 3, 1, 1, 1, 0x10);
  }

  private static void p33MarksOfPull() {
    // The other one, which is not of the set, PULLS 100 all the time.
    orders(held(100, 100), 1, 50, 300, 100, 0);
    orders(held(100, 100), 1, 50, 300, 99, -4);
    // The new TIGHT.
    orders(held(100, 100), 1, 200, 300, 200, 0);
    orders(held(100, 100), 1, 200, 300, 199, -4);
    // One that isn't WHOLE PULLS nothing.
    MastWind x = held(100, 100, 999, 999);
    x.becomes(2, 1);
    x.becomes(3, 2);
    orders(x, 1, 100, 300, 100, 0);
    orders(x, 1, 100, 300, 99, -4);
    // MARK 1.
    orders(held(1, 1), 3, 1, 300, 1, 0x10);
    orders(held(1, 1), 3, 2, 300, 1, -4);
    orders(held(1, 1), 3, 2, 300, 2, 0x10);
    // With one OFF the other one PULLS too much, at first or in the end.
    orders(held(5, 2), 3, 1, 300, 2, 0x10);
    orders(held(2, 5), 3, 1, 300, 2, 1);
    orders(held(5, 5), 3, 1, 300, 2, -4);
  }

  private static void p33MustNotFall() {
    orders(held(300, 300), 1, 300, 300, 9999, 0);
    orders(held(300, 301), 1, 300, 300, 9999, -4);
    orders(held(299, 300), 2, 300, 300, 9999, 1);
    orders(held(300, 300), 2, 300, 300, 9999, -4);
    // Drawn anew: 299 to the east, 300 to the west, and 1 more.
    orders(held(0, 0), 1, 299, 300, 9999, 0);
    orders(held(0, 0), 1, 300, 300, 9999, -4);
    orders(held(0, 0), 2, 300, 300, 9999, 1);
    orders(held(0, 0), 2, 301, 300, 9999, -4);
    orders(Edge.fallen(), 1, 70, 300, 9999, -4);
  }

  private static void p33WholeWithItsNewTight() {
    // Either first: 0 OFF -50, 0 drawn 50, 1 OFF 100, or 1 OFF 50, 1 drawn -50, 0 OFF -100.
    orders(held(50, 50), 3, 100, 100, 100, 0x10);
    orders(held(50, 50), 3, 100, 99, 100, -4);
    // To 0: 0 OFF -50, 0 drawn -50, 1 OFF 0.
    orders(held(50, 50), 3, 0, 50, 50, 0x10);
    orders(held(50, 50), 3, 0, 49, 50, -4);
    // 0 and 1 are drawn to 60: those behind are as TIGHT as they were.
    orders(held(50, 50, 50, 50), 3, 60, 60, 60, 0x10);
    orders(held(50, 50, 50, 50), 3, 60, 59, 60, -4);
  }

  private static void p33FirstByNumbers() {
    orders(held(9, 9, 9), 7, 9, 300, 9999, 0x210);
    // 0 to 20 is 10; behind it neither can be the next but one: with 1 OFF 30, or 40.
    orders(held(10, 20, 10), 7, 20, 20, 9999, 0x201);
    // 0 OFF -30, 2 OFF -60.
    orders(held(30, 60, 30), 5, 0, 60, 9999, 0x20);
    orders(held(30, 60, 30), 5, 0, 59, 9999, -4);
    // 0 OFF -100 or -60; 1 OFF first is 40, to 30 10; then 0 OFF -30, to 30 0.
    orders(held(40, 100), 3, 30, 59, 9999, 1);
    orders(held(40, 60), 3, 30, 59, 9999, 1);
    orders(held(40, 59), 3, 30, 59, 9999, 0x10);
    // 0 OFF -40, to 100 60, 1 OFF 100; the other way round it is -100.
    orders(held(30, 40), 3, 100, 100, 9999, 0x10);
    orders(held(30, 40), 3, 100, 99, 9999, -4);
    // 0 OFF -60, or one more; 1 OFF first 60, then 0 OFF 30.
    orders(held(30, 90, 30), 7, 0, 60, 9999, 0x210);
    orders(held(30, 91, 30), 7, 0, 60, 9999, 0x201);
  }

  private static void p33OneBehindTheOther() {
    MastWind x = twelve();
    orders(x, 0xfc0, 9, 300, 9999, 0xba9876);
    orders(x, 1, 9, 300, 9999, 0);
    orders(x, 0x03f, 9, 300, 9999, 0x543210);
    orders(x, 0x03f, 9, 0, 9999, -4);
    orders(x, 0x801, 9, 300, 9999, 0xb0);
    orders(x, 0x801, 9, 300, 8, -4);
    orders(x, 6, 9, 300, 9, 0x21);
  }

  private static void p33WhatIsAheadIsNotLookedAt() {
    MastWind x = held(400, 100);
    Edge.is(33, "it FALLS ahead", x.stand(), Edge.FALLS);
    orders(x, 1, 100, 100, 100, 0);
    orders(held(999, 100), 1, 100, 100, 100, 0);
  }

  private static void p33EndsOfNumbers() {
    orders(held(0, 0), 3, 0, 300, 9999, 0x10);
    MastWind soft = Due.mast("p0 1 1 0 1;f999;r0 e 1 1 0;");
    orders(soft, 1, 999, 300, 9999, 0);
    orders(soft, 1, 999, 1, 999, 0);
    orders(soft, 1, 999, 1, 998, -4);
    orders(soft, 1, 1000, 1, 9999, -1);
    orders(held(0, 0), 3, 0, 0, 1, 0x10);
    orders(held(0, 0), 3, 0, 0, 0, -1);
    orders(held(0, 0), 3, 0, 301, 1, -1);
  }

  private static MastWind broken(int how) {
    MastWind x = Edge.full();
    x.becomes(1, how);
    return x;
  }

  private static void p33Refusals() {
    Edge.refusesEach(33, "order(set, 60, 300, 9999)", Edge::full, (x, set) -> x.order(set, 60, 300, 9999), -1, 0, -1, -2,
        -4, 4, 5, 6, 7, 8, 1 << 12, 1 << 30, (1 << 16) + 1);
    Edge.refusesEach(33, "order(3, tight, 300, 9999)", Edge::full, (x, n) -> x.order(3, n, 300, 9999), -1, -1, 1000);
    Edge.refusesEach(33, "order(3, 60, lean, 9999)", Edge::full, (x, n) -> x.order(3, 60, n, 9999), -1, -1, 301);
    Edge.refusesEach(33, "order(3, 60, 300, pull)", Edge::full, (x, n) -> x.order(3, 60, 300, n), -1, -1, 0, 10000);
    Edge.refuses(33, "one that is CUT", () -> broken(1), x -> x.order(3, 60, 300, 9999), -1);
    Edge.refuses(33, "one that is OFF", () -> broken(2), x -> x.order(3, 60, 300, 9999), -1);
    Edge.refuses(33, "that one alone", () -> broken(2), x -> x.order(2, 60, 300, 9999), -1);
    MastWind first = held(9, 9, 9);
    first.becomes(0, 1);
    orders(first, 1, 9, 300, 9999, -1);
    orders(first, 7, 9, 300, 9999, -1);
    orders(first, 6, 9, 300, 9999, 0x21);
    first.becomes(0, 0);
    first.becomes(2, 2);
    orders(first, 7, 9, 300, 9999, -1);
    orders(first, 3, 9, 300, 9999, 0x10);
    Edge.is(33, "the other one", broken(2).order(1, 60, 300, 9999), 0);
    Edge.is(33, "six of twelve", twelve().order(0xaaa, 9, 300, 9999), 0xb97531);
    Edge.is(33, "seven of twelve", twelve().order(0xaab, 9, 300, 9999), -1);
    Edge.is(33, "all of twelve", twelve().order(0xfff, 9, 300, 9999), -1);
    Edge.is(33, "one beyond twelve", twelve().order(0x1000, 9, 300, 9999), -1);
    Edge.is(33, "one beyond twelve, too", twelve().order(0x1001, 9, 300, 9999), -1);
    Edge.is(33, "the sign's bit", twelve().order(Integer.MIN_VALUE + 1, 9, 300, 9999), -1);
    Edge.is(33, "without ROPES", new MastWind().order(1, 9, 300, 9999), -1);
    Edge.refuses(33, "none", Edge::full, x -> x.order(3, 999, 0, 1), -4);
    Edge.changesNothing(33, "order(3, 75, 300, 9999)", Edge::full, x -> x.order(3, 75, 300, 9999));
  }

  // ---- promise 34

  private static void reads(MastWind x, int rope, int pulls, int doubt, int least, int greatest) {
    String call = "READ BACK of " + rope + " by " + pulls + ", DOUBT " + doubt;
    Edge.is(34, call + ", the least", x.readBack(rope, pulls, doubt, 0), least);
    Edge.is(34, call + ", the greatest", x.readBack(rope, pulls, doubt, 1), greatest);
  }

  /** It PULLS what it is TIGHT, and THE STAND is a fourth of that: it never FALLS. */
  private static MastWind single() {
    return Due.mast("p0 1 1 0 1;f4;r0 e 1 1 77;");
  }

  private static void p34LeastAndGreatest() {
    reads(single(), 0, 500, 0, 500, 500);
    reads(single(), 0, 500, 1, 499, 501);
    reads(single(), 0, 500, 99, 401, 599);
    MastWind x = single();
    x.readBack(0, 500, 99, 1);
    Edge.is(34, "TIGHT is as it was", x.rope(0, 4), 77);
  }

  private static void p34EndsOfTight() {
    reads(single(), 0, 0, 0, 0, 0);
    reads(single(), 0, 0, 99, 0, 99);
    reads(single(), 0, 98, 99, 0, 197);
    reads(single(), 0, 99, 99, 0, 198);
    reads(single(), 0, 100, 99, 1, 199);
    reads(single(), 0, 999, 0, 999, 999);
    reads(single(), 0, 999, 99, 900, 999);
    reads(single(), 0, 901, 99, 802, 999);
    reads(single(), 0, 900, 99, 801, 999);
    reads(single(), 0, 899, 99, 800, 998);
    reads(single(), 0, 1000, 1, 999, 999);
    reads(single(), 0, 1098, 99, 999, 999);
  }

  private static void p34WhereItFalls() {
    // A FOOT of 1: it stands at TIGHT, up to 299, and to the west up to 300.
    MastWind east = Due.mast("p0 1 1 0 1;f1;r0 e 1 1 5;");
    reads(east, 0, 299, 0, 299, 299);
    reads(east, 0, 300, 0, -4, -4);
    reads(east, 0, 300, 99, 201, 299);
    reads(east, 0, 398, 99, 299, 299);
    reads(east, 0, 399, 99, -4, -4);
    MastWind west = Due.mast("p0 1 1 0 1;f1;r0 w 1 1 5;");
    reads(west, 0, 300, 0, 300, 300);
    reads(west, 0, 301, 0, -4, -4);
    reads(west, 0, 399, 99, 300, 300);
    reads(west, 0, 400, 99, -4, -4);
    // It FALLS now; with a TIGHT that is more it stands.
    MastWind two = held(0, 400);
    Edge.is(34, "it FALLS now", two.stand(), Edge.FALLS);
    reads(two, 0, 100, 0, 100, 100);
    reads(two, 0, 99, 0, -4, -4);
    reads(two, 0, 90, 20, 100, 110);
  }

  private static void p34AllElseAsNow() {
    // 50 more to the east: it stands up to 349 to the west, and from 0 on to the east.
    MastWind x = held(50, 0, 0);
    reads(x, 1, 350, 0, 350, 350);
    reads(x, 1, 351, 0, -4, -4);
    reads(x, 2, 249, 0, 249, 249);
    reads(x, 2, 250, 0, -4, -4);
    x.tight(0, 60);
    reads(x, 1, 360, 0, 360, 360);
    reads(x, 1, 361, 0, -4, -4);
    reads(x, 2, 240, 0, -4, -4);
    reads(x, 0, 299, 0, 299, 299);
    x.becomes(0, 1);
    reads(x, 1, 300, 0, 300, 300);
    reads(x, 1, 301, 0, -4, -4);
    reads(x, 2, 299, 99, 200, 299);
  }

  private static void p34LooseOnes() {
    // At 12 it PULLS 1 less, up to a TIGHT of 16: at 13 -79 is not held by less than 80.
    MastWind x = Due.mast("p0 10 10 10 9;f100;r0 e 10 20 50;");
    x.wind(35, 1);
    Edge.is(34, "THE STAND with TIGHT 50", x.stand(), 14);
    x.tight(0, 0);
    Edge.is(34, "THE STAND with TIGHT 0", x.stand(), 12);
    reads(x, 0, 0, 0, 0, 1);
    reads(x, 0, 1, 0, 2, 2);
    reads(x, 0, 0, 1, 0, 2);
  }

  private static void p34None() {
    reads(single(), 0, 1000, 0, -4, -4);
    reads(single(), 0, 1099, 99, -4, -4);
    reads(single(), 0, 9999, 99, -4, -4);
    reads(single(), 0, 9999, 0, -4, -4);
    Edge.refuses(34, "none", Edge::full, x -> x.readBack(0, 9999, 0, 0), -4);
  }

  private static void p34Refusals() {
    Edge.refusesEach(34, "readBack(r, 5, 5, 0)", Edge::full, (x, r) -> x.readBack(r, 5, 5, 0), -1, -1, 2, 3, 11, 12);
    Edge.refusesEach(34, "readBack(0, pulls, 5, 0)", Edge::full, (x, n) -> x.readBack(0, n, 5, 0), -1, -1, 10000);
    Edge.refusesEach(34, "readBack(0, 5, doubt, 0)", Edge::full, (x, n) -> x.readBack(0, 5, n, 0), -1, -1, 100);
    Edge.refusesEach(34, "readBack(0, 5, 5, what)", Edge::full, (x, n) -> x.readBack(0, 5, 5, n), -1, -1, 2);
    for (int how = 1; how <= 2; how++) {
      int h = how;
      Edge.refuses(34, "it isn't WHOLE", () -> broken(h), x -> x.readBack(1, 5, 5, 0), -3);
      Edge.refuses(34, "it isn't WHOLE, the greatest", () -> broken(h), x -> x.readBack(1, 5, 5, 1), -3);
      Edge.refuses(34, "it isn't WHOLE, and pulls 10000", () -> broken(h), x -> x.readBack(1, 10000, 5, 0), -1);
      Edge.refuses(34, "it isn't WHOLE, and pulls -1", () -> broken(h), x -> x.readBack(1, -1, 5, 0), -1);
      Edge.refuses(34, "it isn't WHOLE, and DOUBT 100", () -> broken(h), x -> x.readBack(1, 5, 100, 0), -1);
      Edge.refuses(34, "it isn't WHOLE, and DOUBT -1", () -> broken(h), x -> x.readBack(1, 5, -1, 0), -1);
      Edge.refuses(34, "it isn't WHOLE, and what 2", () -> broken(h), x -> x.readBack(1, 5, 5, 2), -1);
      Edge.refuses(34, "it isn't WHOLE, and what -1", () -> broken(h), x -> x.readBack(1, 5, 5, -1), -1);
      Edge.is(34, "the other one isn't WHOLE", broken(h).readBack(0, 5, 5, 0) >= 0 ? 1 : 0, 1);
      Edge.refuses(34, "it isn't WHOLE, and none would FIT", () -> broken(h), x -> x.readBack(1, 9999, 0, 0), -3);
    }
    Edge.changesNothing(34, "readBack(0, 70, 5, 0)", Edge::full, x -> x.readBack(0, 70, 5, 0));
    Edge.changesNothing(34, "readBack(1, 60, 99, 1)", Edge::full, x -> x.readBack(1, 60, 99, 1));
  }

  // ---- promise 35

  private static MastWind offering(int many) {
    MastWind x = Edge.full();
    for (int i = x.told(9); i < many; i++) {
      x.offer(0, 1, 999);
    }
    return x;
  }

  private static void p35HowMany() {
    MastWind x = held(5, 5);
    for (int i = 1; i <= 8; i++) {
      Edge.is(35, "an OFFER, number " + i, x.offer(i % 2, i == 1 ? 99 : 1, i == 1 ? 999 : 1), i);
      Edge.is(35, "OFFERS", x.told(9), i);
    }
    Edge.is(35, "STRETCH is as it was", x.rope(0, 3) + x.rope(1, 3), 2);
    MastWind y = twelve();
    Edge.is(35, "for the last ROPE there may be", y.offer(11, 1, 1), 1);
    y.becomes(0, 1);
    Edge.is(35, "for one that is CUT", y.offer(0, 1, 1), 2);
    y.becomes(1, 2);
    Edge.is(35, "for one that is OFF", y.offer(1, 1, 1), 3);
  }

  private static void p35NoRoom() {
    Edge.is(35, "the eighth", offering(7).offer(0, 1, 1), 8);
    Edge.refuses(35, "a ninth", () -> offering(8), x -> x.offer(0, 1, 1), -2);
    Edge.refuses(35, "a ninth for no ROPE", () -> offering(8), x -> x.offer(2, 1, 1), -1);
    Edge.refuses(35, "a ninth, 0 more", () -> offering(8), x -> x.offer(0, 0, 1), -1);
    Edge.refuses(35, "a ninth, 100 more", () -> offering(8), x -> x.offer(0, 100, 1), -1);
    Edge.refuses(35, "a ninth for 0", () -> offering(8), x -> x.offer(0, 1, 0), -1);
    Edge.refuses(35, "a ninth for 1000", () -> offering(8), x -> x.offer(0, 1, 1000), -1);
  }

  private static void p35Refusals() {
    Edge.refusesEach(35, "offer(r, 5, 5)", Edge::full, (x, r) -> x.offer(r, 5, 5), -1, -1, 2, 3, 11, 12);
    Edge.refusesEach(35, "offer(0, more, 5)", Edge::full, (x, n) -> x.offer(0, n, 5), -1, -1, 0, 100);
    Edge.refusesEach(35, "offer(0, 5, price)", Edge::full, (x, n) -> x.offer(0, 5, n), -1, -1, 0, 1000);
    Edge.is(35, "offer without ROPES", new MastWind().offer(0, 1, 1), -1);
  }

  // ---- promise 36

  private static void cheapest(MastWind x, int mark, int price, int set) {
    Edge.is(36, "PRICE for " + mark, x.cheapest(0, mark, 0), price);
    Edge.is(36, "set for " + mark, x.cheapest(0, mark, 1), set);
  }

  private static MastWind windy(int... areas) {
    MastWind x = Due.mast("p0 1 1 " + areas[0] + " 1;p0 2 1 " + areas[1] + " 1;p0 3 1 " + areas[2] + " 1;f1;");
    Due.lay(x, 0, 0, 10);
    return x;
  }

  private static void p36EmptySet() {
    cheapest(windy(0, 0, 0), 0, 0, 0);
    MastWind x = windy(7, 0, 0);
    cheapest(x, 7, 0, 0);
    cheapest(x, 6, -4, -4);
    MastWind y = offered(1, 99);
    cheapest(y, 300, 0, 0);
  }

  private static void p36Marks() {
    cheapest(windy(1, 0, 0), 1, 0, 0);
    cheapest(windy(1, 0, 0), 0, -4, -4);
    // 299 to the east, 300 to the west at the most.
    cheapest(windy(99, 97, 2), 299, 0, 0);
    cheapest(windy(99, 97, 2), 300, 0, 0);
    cheapest(windy(99, 97, 2), 298, -4, -4);
    cheapest(windy(98, 98, 2), 300, -4, -4);
    MastWind x = windy(0, 0, 0);
    Edge.is(36, "MARK 301", x.cheapest(0, 301, 0), -1);
    Edge.is(36, "MARK -1", x.cheapest(0, -1, 0), -1);
  }

  /**
   * ARM 49, the FOOT gives 10, a WIND of 10 is 990. With a STRETCH of 1 it stands at 81 to the east, at -82 to
   * the west, with one of 11 at -28, with one of 21 at -17, with one of 99 at 4 and -5.
   */
  private static MastWind offered(int west, int east) {
    MastWind x = Due.mast("p0 99 1 10 1;f10;r0 w 99 " + west + " 0;r0 e 99 " + east + " 0;");
    Due.lay(x, 0, 0, 10);
    return x;
  }

  private static void p36BothSides() {
    MastWind west = offered(99, 1);
    west.offer(1, 98, 7);
    cheapest(west, 82, 0, 0);
    cheapest(west, 81, 7, 1);
    cheapest(west, 5, 7, 1);
    cheapest(west, 4, -4, -4);
    MastWind east = offered(1, 99);
    east.offer(0, 98, 7);
    cheapest(east, 81, 0, 0);
    cheapest(east, 80, 7, 1);
    cheapest(east, 5, 7, 1);
    cheapest(east, 4, -4, -4);
    // The SIDE of the WIND as it is does not matter, nor does its SPEED.
    east.wind(99, -1);
    cheapest(east, 81, 0, 0);
    east.wind(0, 1);
    cheapest(east, 80, 7, 1);
    Edge.is(36, "the WIND is as it was", east.wind(1, 1), 0);
  }

  private static void p36AllSpeeds() {
    for (int place = 0; place < 8; place++) {
      MastWind x = offered(99, 1);
      x.offer(1, 98, 7);
      int[] speeds = new int[8];
      speeds[place] = 10;
      Due.lay(x, 0, 0, speeds);
      cheapest(x, 82, 0, 0);
      cheapest(x, 81, 7, 1);
    }
    MastWind y = offered(99, 1);
    Due.lay(y, 0, 0, 0);
    cheapest(y, 0, 0, 0);
    Due.lay(y, 0, 0, 9);
    // PUSH is 8, times 99 792: 660 of the FOOT and 3 times 49 hold it at -66, 650 and 3 times 49 don't.
    cheapest(y, 66, 0, 0);
  }

  private static void p36LeastAsBits() {
    MastWind x = offered(99, 1);
    x.offer(1, 10, 15);
    x.offer(1, 10, 15);
    x.offer(1, 20, 30);
    cheapest(x, 28, 15, 1);
    cheapest(x, 27, 30, 3);
    cheapest(x, 17, 30, 3);
    MastWind y = offered(99, 1);
    y.offer(1, 20, 30);
    y.offer(1, 10, 15);
    y.offer(1, 10, 15);
    cheapest(y, 28, 15, 2);
    cheapest(y, 27, 30, 1);
    // A cheaper one comes later, and dearer ones behind it.
    MastWind z = offered(99, 1);
    z.offer(1, 98, 31);
    z.offer(1, 98, 30);
    z.offer(1, 98, 30);
    z.offer(1, 98, 999);
    cheapest(z, 27, 30, 2);
  }

  private static void p36StaysAt99() {
    MastWind x = offered(99, 1);
    x.offer(1, 99, 3);
    x.offer(1, 99, 4);
    cheapest(x, 5, 3, 1);
    // With a STRETCH of 199 it would be -3.
    cheapest(x, 4, -4, -4);
    MastWind y = offered(99, 99);
    y.offer(1, 1, 3);
    y.offer(0, 99, 3);
    cheapest(y, 5, 0, 0);
    cheapest(y, 4, -4, -4);
    MastWind z = offered(99, 1);
    z.offer(1, 97, 3);
    z.offer(1, 1, 4);
    z.offer(1, 1, 4);
    cheapest(z, 5, 3, 1);
  }

  /** With a STRETCH of 21 it stands at 16 to the east, with one of 41 at 9 and -10. */
  private static void p36OffersOfTwoRopes() {
    MastWind x = offered(1, 1);
    x.offer(0, 20, 30);
    x.offer(1, 20, 25);
    x.offer(0, 40, 50);
    x.offer(1, 40, 60);
    cheapest(x, 82, 0, 0);
    cheapest(x, 81, 25, 2);
    cheapest(x, 17, 55, 3);
    cheapest(x, 16, 90, 1 + 8);
    cheapest(x, 9, 135, 2 + 4 + 8);
    MastWind y = offered(1, 1);
    y.offer(1, 20, 25);
    y.offer(0, 20, 30);
    cheapest(y, 81, 25, 1);
    cheapest(y, 80, 55, 3);
    cheapest(y, 17, 55, 3);
    cheapest(y, 16, -4, -4);
    // An OFFER for a ROPE that is CUT helps nothing.
    y.becomes(1, 1);
    cheapest(y, 81, -4, -4);
    cheapest(y, 17, -4, -4);
  }

  private static void p36ManyOffers() {
    MastWind x = offered(99, 1);
    for (int i = 0; i < 8; i++) {
      x.offer(1, 3, 999);
    }
    // With a STRETCH of 19 it is -19, of 22 -16, of 25 -15.
    cheapest(x, 16, 7 * 999, 127);
    cheapest(x, 15, 8 * 999, 255);
    cheapest(x, 14, -4, -4);
  }

  private static void p36RowOfSpeeds() {
    Edge.is(36, "a ROW of 1", ofSpeeds(0).cheapest(0, 300, 0), 0);
    Edge.is(36, "a ROW of 8", ofSpeeds(0, 1, 2, 3, 4, 5, 6, 7).cheapest(0, 300, 0), 0);
    Edge.is(36, "SPEED 99", ofSpeeds(99).cheapest(0, 300, 0), 0);
    int[] wrong = {100, 127, -1, -128};
    for (int u : wrong) {
      for (int place = 0; place < 8; place++) {
        int[] speeds = new int[8];
        speeds[place] = u;
        Edge.is(36, u + " is no SPEED, at " + place, ofSpeeds(speeds).cheapest(0, 300, 0), -13);
      }
    }
  }

  /** A mast on which no WIND pushes. */
  private static MastWind ofSpeeds(int... speeds) {
    MastWind x = Due.mast("p0 1 1 0 1;f1;");
    Due.lay(x, 0, 0, speeds);
    return x;
  }

  private static void p36None() {
    MastWind x = Due.mast("p0 1 1 0 1;r0 e 1 1 0;");
    x.offer(0, 99, 1);
    Due.lay(x, 0, 0, 0);
    // It FALLS without any WIND: the FOOT gives nothing.
    cheapest(x, 300, -4, -4);
    Edge.refuses(36, "none", EdgeSearchTest::rowed, y -> y.cheapest(6, 0, 0), -4);
    Edge.is(36, "without PIECES it FALLS", empty().cheapest(0, 300, 1), -4);
  }

  private static MastWind empty() {
    MastWind x = new MastWind();
    x.row(0, 0, 1);
    return x;
  }

  /** As full, and SHELF 6 holds SPEEDS, SHELF 7 nine. */
  private static MastWind rowed() {
    MastWind x = Edge.full();
    Due.lay(x, 6, 0, 20, 99);
    x.row(7, 0, 9);
    return x;
  }

  private static void p36Refusals() {
    Edge.Make make = EdgeSearchTest::rowed;
    Edge.refusesEach(36, "cheapest(d, 5, 0)", make, (x, d) -> x.cheapest(d, 5, 0), -1, -1, 8);
    Edge.refusesEach(36, "cheapest(6, mark, 0)", make, (x, n) -> x.cheapest(6, n, 0), -1, -1, 301);
    Edge.refusesEach(36, "cheapest(6, 5, what)", make, (x, n) -> x.cheapest(6, 5, n), -1, -1, 2);
    for (int what = 0; what <= 1; what++) {
      int w = what;
      Edge.refuses(36, "nothing", Edge::full, x -> x.cheapest(6, 5, w), -11);
      Edge.refuses(36, "a PIECE", make, x -> x.cheapest(3, 5, w), -12);
      Edge.refuses(36, "shorts", make, x -> x.cheapest(1, 5, w), -12);
      Edge.refuses(36, "ints", make, x -> x.cheapest(2, 5, w), -12);
      Edge.refuses(36, "an empty ROW", make, x -> x.cheapest(5, 5, w), -13);
      Edge.refuses(36, "nine SPEEDS", make, x -> x.cheapest(7, 5, w), -13);
      Edge.refuses(36, "no SPEEDS", make, x -> x.cheapest(0, 5, w), -13);
    }
    int[] shelves = {0, 1, 2, 3, 4, 5, 7};
    for (int d : shelves) {
      Edge.refuses(36, "MARK 301 ahead of what SHELF " + d + " refuses", make, x -> x.cheapest(d, 301, 0), -1);
      Edge.refuses(36, "MARK -1 ahead of what SHELF " + d + " refuses", make, x -> x.cheapest(d, -1, 0), -1);
      Edge.refuses(36, "what 2 ahead of what SHELF " + d + " refuses", make, x -> x.cheapest(d, 5, 2), -1);
      Edge.refuses(36, "what -1 ahead of what SHELF " + d + " refuses", make, x -> x.cheapest(d, 5, -1), -1);
    }
    Edge.refuses(36, "MARK 301, and nothing", Edge::full, x -> x.cheapest(6, 301, 0), -1);
    Edge.refuses(36, "what 2, and nothing", Edge::full, x -> x.cheapest(6, 5, 2), -1);
    MastWind x = empty();
    x.row(0, 1, 0);
    Edge.is(36, "no bytes, and none of them", x.cheapest(0, 5, 0), -12);
    Edge.changesNothing(36, "cheapest(6, 5, 0)", make, y -> y.cheapest(6, 5, 0));
    Edge.changesNothing(36, "cheapest(6, 300, 1)", make, y -> y.cheapest(6, 300, 1));
  }
}
