/** The edges of promises 8 to 15, a method a sentence. */
public final class EdgeWindsTest {

  public static void main(String[] args) {
    p8WhatSpeedWas();
    p8Refusals();
    p9WhatItWas();
    p9SharesByHeights();
    p9Refusals();
    p10Cuts();
    p10Greatest();
    p10Refusals();
    p11EndsOfLeans();
    p11WeightIsCutTowardZero();
    p11PullIsCutTowardZero();
    p11PullIsZeroAtLeast();
    p11OthersPullNothing();
    p11Greatest();
    p11Refusals();
    p12RestOfZero();
    p12Edges();
    p12LeastFromZeroOn();
    p12GreatestBelowZero();
    p12NotOnTheOtherSide();
    p13HowMany();
    p13FromTheLeastOn();
    p13Edges();
    p13Refusals();
    p14InTheStand();
    p14Refusals();
    p15Bits();
    p15WholeOnesThatPullNothing();
    p15Refusals();
    Due.finish();
  }

  // ---- promise 8

  private static void p8WhatSpeedWas() {
    MastWind x = Due.mast("p0 1 1 99 1;");
    Edge.is(8, "wind(99, 1), of a new object", x.wind(99, 1), 0);
    Edge.is(8, "PUSH at 99", x.push(0), 9801 * 99 / 100);
    Edge.is(8, "wind(0, -1)", x.wind(0, -1), 99);
    Edge.is(8, "PUSH at 0", x.push(0), 0);
    Edge.is(8, "wind(1, -1)", x.wind(1, -1), 0);
    Edge.is(8, "wind(11, -1)", x.wind(11, -1), 1);
    Edge.is(8, "PUSH to the west", x.push(0), -119);
    Edge.is(8, "wind(11, 1)", x.wind(11, 1), 11);
    Edge.is(8, "PUSH to the east", x.push(0), 119);
  }

  private static void p8Refusals() {
    Edge.refusesEach(8, "wind(speed, 1)", Edge::full, (x, n) -> x.wind(n, 1), -1, -1, 100);
    Edge.refusesEach(8, "wind(speed, -1)", Edge::full, (x, n) -> x.wind(n, -1), -1, -1, 100);
    Edge.refusesEach(8, "wind(5, side)", Edge::full, (x, n) -> x.wind(5, n), -1, -3, -2, 0, 2, 3);
    Edge.refuses(8, "wind(100, 0), both", Edge::full, x -> x.wind(100, 0), -1);
  }

  // ---- promise 9

  private static void p9WhatItWas() {
    MastWind x = new MastWind();
    for (int i = 0; i < 5; i++) {
      Edge.is(9, "SHARE " + i + " at first", x.share(i, 200), 100);
      Edge.is(9, "SHARE " + i + " of 200", x.share(i, 0), 200);
      Edge.is(9, "SHARE " + i + " of 0", x.share(i, 1 + i), 0);
    }
    for (int i = 0; i < 5; i++) {
      Edge.is(9, "SHARE " + i + " is its own", x.share(i, 100), 1 + i);
    }
  }

  private static void p9SharesByHeights() {
    int[] heights = {1, 19, 20, 39, 40, 59, 60, 79, 80, 99};
    for (int k = 0; k < heights.length; k++) {
      MastWind x = Due.mast("p0 " + heights[k] + " 1 50 1;");
      x.wind(10, 1);
      for (int i = 0; i < 5; i++) {
        x.share(i, 0);
      }
      Edge.is(9, "no SHARE at HEIGHT " + heights[k], x.push(0), 0);
      x.share(k / 2, 200);
      Edge.is(9, "SHARE " + k / 2 + " at HEIGHT " + heights[k], x.push(0), 200);
    }
  }

  private static void p9Refusals() {
    Edge.refusesEach(9, "share(i, 5)", Edge::full, (x, i) -> x.share(i, 5), -1, -1, 5);
    Edge.refusesEach(9, "share(0, n)", Edge::full, (x, n) -> x.share(0, n), -1, -1, 201);
    Edge.refusesEach(9, "share(4, n)", Edge::full, (x, n) -> x.share(4, n), -1, -1, 201);
    Edge.refuses(9, "share(5, 201), both", Edge::full, x -> x.share(5, 201), -1);
  }

  // ---- promise 10

  private static void p10Cuts() {
    MastWind x = Due.mast("p0 1 1 99 1;");
    x.wind(99, 1);
    x.share(0, 1);
    // 99 by 100 is 0.
    Edge.is(10, "SPEED times SHARE by 100 is cut", x.push(0), 0);
    x.share(0, 3);
    // 297 by 100 is 2; 4 times 99 by 100 is 3.
    Edge.is(10, "v times v times what it FACES by 100 is cut", x.push(0), 3);
    x.wind(99, -1);
    Edge.is(10, "cut ahead of the SIDE", x.push(0), -3);
    x.wind(50, 1);
    x.share(0, 2);
    Edge.is(10, "99 by 100", x.push(0), 0);
    x.ice(0, 2);
    Edge.is(10, "100 by 100, by what it FACES with ICE", x.push(0), 1);
    x.wind(50, -1);
    Edge.is(10, "100 by 100 to the west", x.push(0), -1);
    x.share(0, 0);
    Edge.is(10, "SHARE 0", x.push(0), 0);
  }

  private static void p10Greatest() {
    MastWind x = Due.mast("p0 20 99 99 1;p2 21 99 99 1;p1 22 1 0 1;");
    x.ice(0, 20);
    x.ice(1, 20);
    x.share(1, 200);
    x.wind(99, 1);
    // 198 times 198 is 39204, by 109 and 79.
    Edge.is(10, "the greatest PUSH on a PIECE", x.push(0), 42732);
    Edge.is(10, "the greatest PUSH on an ICED one", x.push(1), 30971);
    Edge.is(10, "PUSH on one that FACES 0", x.push(2), 0);
    x.wind(99, -1);
    Edge.is(10, "the least PUSH", x.push(0), -42732);
  }

  private static void p10Refusals() {
    Edge.throwsEach(10, "push(i)", Edge::full, (x, i) -> x.push(i), 1, -1, 2, 3, 9, 10);
    Edge.throwsEach(10, "push(i) of no PIECES", MastWind::new, (x, i) -> x.push(i), 1, -1, 0, 1);
    Edge.changesNothing(10, "push(1)", Edge::full, x -> x.push(1));
  }

  // ---- promise 11

  private static void p11EndsOfLeans() {
    MastWind x = Due.mast("f1;");
    Edge.is(11, "rest(-300)", x.rest(-300), 300);
    Edge.is(11, "rest(-1)", x.rest(-1), 1);
    Edge.is(11, "rest(0)", x.rest(0), 0);
    Edge.is(11, "rest(1)", x.rest(1), -1);
    Edge.is(11, "rest(300)", x.rest(300), -300);
    Edge.is(11, "rest(300) of a new object", new MastWind().rest(300), 0);
  }

  private static void p11WeightIsCutTowardZero() {
    MastWind x = Due.mast("p0 1 9 0 1;");
    Edge.is(11, "999 by 1000", x.rest(111), 0);
    Edge.is(11, "-999 by 1000", x.rest(-111), 0);
    Edge.is(11, "1008 by 1000", x.rest(112), 1);
    Edge.is(11, "-1008 by 1000", x.rest(-112), -1);
    MastWind y = Due.mast("p0 1 10 0 1;p0 2 5 0 1;");
    Edge.is(11, "1000 by 1000, twice", y.rest(100), 2);
    Edge.is(11, "990 by 1000, twice", y.rest(99), 0);
    Edge.is(11, "-990 by 1000, twice", y.rest(-99), 0);
    Edge.is(11, "-1000 by 1000, twice", y.rest(-100), -2);
  }

  /*
   * The ARM is 5, and STRETCH times ARM 5: at 199 995 by 1000 is 0, at 200 it is 1. WEIGHT
   * gives l by 100, cut.
   */
  private static void p11PullIsCutTowardZero() {
    MastWind east = Due.mast("p0 10 1 0 1;r0 e 10 1 10;");
    Edge.is(11, "east, 199", east.rest(199), 1 + 50);
    Edge.is(11, "east, 200", east.rest(200), 2 + 45);
    Edge.is(11, "east, -199", east.rest(-199), -1 + 50);
    Edge.is(11, "east, -200", east.rest(-200), -2 + 55);
    MastWind west = Due.mast("p0 10 1 0 1;r0 w 10 1 10;");
    Edge.is(11, "west, 199", west.rest(199), 1 - 50);
    Edge.is(11, "west, 200", west.rest(200), 2 - 55);
    Edge.is(11, "west, -199", west.rest(-199), -1 - 50);
    Edge.is(11, "west, -200", west.rest(-200), -2 - 45);
  }

  private static void p11PullIsZeroAtLeast() {
    MastWind x = Due.mast("p0 10 1 0 1;r0 e 10 1 0;r0 w 10 1 1;");
    Edge.is(11, "east, 200: 1 too little", x.rest(200), 2 - 10);
    Edge.is(11, "west, -200: just 0", x.rest(-200), -2 + 5);
    x.tight(1, 0);
    Edge.is(11, "west, -200: 1 too little", x.rest(-200), -2 + 5);
    Edge.is(11, "both at 0", x.rest(0), 0);
  }

  private static void p11OthersPullNothing() {
    MastWind x = Due.mast("p0 10 1 0 1;r0 e 10 1 999;r0 w 10 1 9;");
    Edge.is(11, "both WHOLE", x.rest(0), 4950);
    x.becomes(0, 1);
    Edge.is(11, "one CUT", x.rest(0), -45);
    Edge.is(11, "one CUT, where it would pull more", x.rest(-300), -3 - 40);
    x.becomes(0, 2);
    Edge.is(11, "one OFF", x.rest(0), -45);
    x.becomes(0, 0);
    Edge.is(11, "WHOLE again", x.rest(0), 4950);
  }

  private static void p11Greatest() {
    String[] texts = {"p2 90 99 99 1;p2 91 99 99 1;p2 92 99 99 1;p2 93 99 99 1;p2 94 99 99 1;p2 95 99 99 1;f999;",
      "p2 96 99 99 1;p2 97 99 99 1;p2 98 99 99 1;p2 99 99 99 1;r9 e 99 99 999;r9 e 99 99 999;r9 e 99 99 999;",
      "r9 e 99 99 999;r9 e 99 99 999;r9 e 99 99 999;r9 e 99 99 999;r9 e 99 99 999;r9 e 99 99 999;",
      "r9 e 99 99 999;r9 e 99 99 999;r9 e 99 99 999;"};
    MastWind x = Due.mast(texts);
    for (int i = 0; i < 10; i++) {
      x.ice(i, 20);
    }
    x.share(4, 200);
    x.wind(99, 1);
    long pushes = 30971L * 945;
    // 258 times HEIGHT times 300 by 1000, cut, of 90 to 99.
    long weights = 6966 + 7043 + 7120 + 7198 + 7275 + 7353 + 7430 + 7507 + 7585 + 7662;
    // 99 times 300 times 49 by 1000 is 1455.
    long ropes = 12L * (999 + 1455) * 49;
    Edge.is(11, "all there may be, rest(-300)", x.rest(-300), pushes - weights + ropes + 299700);
    Edge.is(11, "all there may be, rest(300)", x.rest(300), pushes + weights - 299700);
    x.wind(99, -1);
    Edge.is(11, "all there may be to the west, rest(300)", x.rest(300), -pushes + weights - 299700);
  }

  private static void p11Refusals() {
    Edge.throwsEach(11, "rest(l)", Edge::full, (x, l) -> x.rest(l), 1, -301, 301);
    Edge.throwsEach(11, "rest(l) of a new object", MastWind::new, (x, l) -> x.rest(l), 1, -301, 301);
    Edge.changesNothing(11, "rest(7)", Edge::full, x -> x.rest(7));
  }

  // ---- promise 12

  /** A mast whose REST is the moment less l: its WEIGHT is nothing at these HEIGHTS. */
  private static MastWind leaning(int moment) {
    int size = Math.abs(moment);
    int third = Math.min(99, size / 3);
    int second = Math.min(99, (size - 3 * third) / 2);
    int first = size - 3 * third - 2 * second;
    MastWind x = Due.mast("p0 1 1 " + first + " 1;p0 2 1 " + second + " 1;p0 3 1 " + third + " 1;f1;");
    x.wind(10, moment < 0 ? -1 : 1);
    Edge.is(12, "REST at 0 of " + moment, x.rest(0), moment);
    return x;
  }

  private static void p12RestOfZero() {
    Edge.is(12, "REST 0 at 0, and below 0 at 1", leaning(0).stand(), 0);
    Edge.is(12, "REST 0 at 1", leaning(1).stand(), 1);
    Edge.is(12, "REST -1 at 0", leaning(-1).stand(), -1);
    Edge.is(12, "REST 0 at all l", new MastWind().stand(), Edge.FALLS);
    Edge.changesNothing(12, "stand()", Edge::full, x -> x.stand());
    Edge.changesNothing(12, "stand(), it FALLS", Edge::fallen, x -> x.stand());
  }

  private static void p12Edges() {
    Edge.is(12, "298 to the east", leaning(298).stand(), 298);
    Edge.is(12, "299 to the east", leaning(299).stand(), 299);
    Edge.is(12, "300 to the east", leaning(300).stand(), Edge.FALLS);
    Edge.is(12, "301 to the east", leaning(301).stand(), Edge.FALLS);
    Edge.is(12, "299 to the west", leaning(-299).stand(), -299);
    Edge.is(12, "300 to the west", leaning(-300).stand(), -300);
    Edge.is(12, "301 to the west", leaning(-301).stand(), Edge.FALLS);
  }

  /** REST is 2 l - 25 (l by 10, cut) for l above 0, and 2 l below: there are four STANDS. */
  private static MastWind eastern() {
    return Due.mast("p0 50 40 1 9;r0 w 50 4 0;");
  }

  /** REST is 25 (-l by 10, cut) + 2 l for l below 0, and 2 l above: there are four STANDS. */
  private static MastWind western() {
    return Due.mast("p0 50 40 1 9;r0 e 50 4 0;");
  }

  private static void p12LeastFromZeroOn() {
    Edge.is(12, "the least of several l", eastern().stand(), 9);
    Edge.is(12, "there are several", eastern().stands(-1), 4);
  }

  private static void p12GreatestBelowZero() {
    MastWind x = western();
    x.wind(10, -1);
    // PUSH is -1, and REST at 0 -50.
    Edge.is(12, "REST at 0", x.rest(0), -50);
    Edge.is(12, "the greatest of several l below 0", x.stand(), -100);
    Edge.is(12, "there are several", x.stands(-1), 5);
    Edge.is(12, "the least of them", x.stands(0), -140);
  }

  private static void p12NotOnTheOtherSide() {
    MastWind x = western();
    Edge.is(12, "REST 0 at 0, and STANDS only below 0", x.stand(), Edge.FALLS);
    Edge.is(12, "STANDS", x.stands(-1), 4);
    MastWind y = eastern();
    y.wind(10, -1);
    Edge.is(12, "REST at 0", y.rest(0), -50);
    Edge.is(12, "REST below 0 at 0, and never 0 to the west", y.stand(), Edge.FALLS);
    // WEIGHT bears it to the east from 1 on, but from 0 on it goes to the west.
    MastWind z = Due.mast("p3 90 99 0 1;p3 91 99 0 1;p3 92 99 0 1;p3 93 99 0 1;p3 94 99 0 1;p3 95 99 0 1;",
        "p3 96 99 0 1;p3 97 99 0 1;p3 98 99 0 1;p3 99 99 2 1;");
    z.wind(10, -1);
    Edge.is(12, "REST at 0", z.rest(0), -99);
    Edge.is(12, "REST at 1", z.rest(1), -99 + 4 * 18 + 5 * 19 + 20);
    Edge.is(12, "REST below 0 at 0, and above it at 1", z.stand(), Edge.FALLS);
  }

  // ---- promise 13

  private static void p13HowMany() {
    Edge.is(13, "stands(-1) of none", new MastWind().stands(-1), 0);
    Edge.is(13, "stands(-1) of one", leaning(7).stands(-1), 1);
    Edge.is(13, "stands(-1) of several", eastern().stands(-1), 4);
    Edge.is(13, "stands(0) of one", leaning(-7).stands(0), -7);
    Edge.is(13, "STANDS do not hang on THE STAND", western().stands(-1), 4);
  }

  private static void p13FromTheLeastOn() {
    int[] east = {9, 19, 29, 39};
    int[] west = {-40, -30, -20, -10};
    for (int i = 0; i < 4; i++) {
      Edge.is(13, "stands(" + i + ") to the east", eastern().stands(i), east[i]);
      Edge.is(13, "stands(" + i + ") to the west", western().stands(i), west[i]);
    }
  }

  private static void p13Edges() {
    Edge.is(13, "stands(0) at -300", leaning(-300).stands(0), -300);
    Edge.is(13, "stands(-1) at -300", leaning(-300).stands(-1), 1);
    Edge.is(13, "stands(-1) at -301", leaning(-301).stands(-1), 0);
    Edge.is(13, "stands(0) at 299", leaning(299).stands(0), 299);
    Edge.is(13, "stands(-1) at 300", leaning(300).stands(-1), 0);
  }

  private static void p13Refusals() {
    int[] below = {-2, -3, -300, Integer.MIN_VALUE, Integer.MIN_VALUE + 1};
    for (int i : below) {
      Edge.refuses(13, "stands(" + i + ")", Edge::full, x -> x.stands(i), -1000000001);
      Edge.is(13, "stands(" + i + ") of none", new MastWind().stands(i), -1000000001);
    }
    int[] above = {1, 2, 600, Integer.MAX_VALUE};
    for (int i : above) {
      Edge.refuses(13, "stands(" + i + ")", () -> leaning(7), x -> x.stands(i), -1000000004);
    }
    Edge.is(13, "stands(4) of four", eastern().stands(4), -1000000004);
    Edge.is(13, "stands(0) of none", new MastWind().stands(0), -1000000004);
    Edge.refuses(13, "stands(0), it FALLS", Edge::fallen, x -> x.stands(0), -1000000004);
    Edge.changesNothing(13, "stands(0)", Edge::full, x -> x.stands(0));
  }

  // ---- promise 14

  private static void p14InTheStand() {
    MastWind x = Due.mast("p0 10 10 10 9;f100;r0 e 10 20 50;r0 w 10 20 50;r0 e 10 99 5;r0 w 10 1 999;");
    x.becomes(2, 1);
    x.becomes(3, 2);
    x.wind(20, 1);
    // 400 and l by 10 (cut) less 100 l, and the ROPES: 50 less l by 10 times 5, 50 and l by 10 times 5.
    Edge.is(14, "THE STAND", x.stand(), 4);
    Edge.is(14, "at 4 100 l by 1000 is 0, east", x.pull(0), 50);
    Edge.is(14, "at 4 100 l by 1000 is 0, west", x.pull(1), 50);
    x.wind(35, 1);
    // At 12 1220 and 1 of the WEIGHT, less 1200 and 10 of the ROPES; at 13 100 less.
    Edge.is(14, "THE STAND", x.stand(), 12);
    Edge.is(14, "at 12 1 less, east", x.pull(0), 49);
    Edge.is(14, "at 12 1 more, west", x.pull(1), 51);
    x.tight(0, 1);
    x.tight(1, 1);
    Edge.is(14, "just 0", x.pull(0), 0);
    x.tight(0, 0);
    Edge.is(14, "0 at least", x.pull(0), 0);
    Edge.is(14, "a CUT one PULLS 0", x.pull(2), 0);
    Edge.is(14, "one that is OFF PULLS 0", x.pull(3), 0);
    x.wind(35, -1);
    x.tight(0, 50);
    // At -10 -1220 and -1 of the WEIGHT, and 1000, and 255 and 0 of the ROPES; at -9 -75.
    Edge.is(14, "THE STAND to the west", x.stand(), -10);
    Edge.is(14, "at -10 1 more, east", x.pull(0), 51);
    Edge.is(14, "at -10 just 0, west", x.pull(1), 0);
  }

  private static void p14Refusals() {
    Edge.refusesEach(14, "pull(r)", Edge::full, (x, r) -> x.pull(r), -1, -1, 2, 3, 11, 12);
    Edge.refusesEach(14, "pull(r), it FALLS too", Edge::fallen, (x, r) -> x.pull(r), -1, -1, 2, 12);
    Edge.refuses(14, "pull(0), it FALLS", Edge::fallen, x -> x.pull(0), -3);
    Edge.refuses(14, "pull(1), it FALLS", Edge::fallen, x -> x.pull(1), -3);
    Edge.is(14, "pull(0) without ROPES, where it FALLS", new MastWind().pull(0), -1);
    MastWind cut = Edge.fallen();
    cut.becomes(0, 1);
    Edge.is(14, "pull(0) of a CUT one, it FALLS", cut.pull(0), -3);
    Edge.changesNothing(14, "pull(0)", Edge::full, x -> x.pull(0));
  }

  // ---- promise 15

  private static void p15Bits() {
    String four = "r0 e 10 1 0;r0 w 10 1 0;r0 e 10 1 0;r0 w 10 1 0;";
    MastWind x = Due.mast("p0 10 1 0 9;f100;" + four, four + four);
    Edge.is(15, "all of twelve", x.loose(), 4095);
    x.tight(0, 1);
    Edge.is(15, "one PULLS 1", x.loose(), 4094);
    x.tight(0, 0);
    x.tight(11, 1);
    Edge.is(15, "the last one PULLS 1", x.loose(), 2047);
    Edge.is(15, "none of no ROPES", Due.mast("f1;").loose(), 0);
    Edge.is(15, "none of those that pull", Due.mast("p0 10 1 0 9;f100;r0 e 10 1 1;r0 w 10 1 1;").loose(), 0);
  }

  private static void p15WholeOnesThatPullNothing() {
    MastWind x = Due.mast("p0 10 1 0 9;f100;r0 e 10 1 0;r0 w 10 1 0;r0 e 10 1 0;");
    Edge.is(15, "three", x.loose(), 7);
    x.becomes(0, 1);
    Edge.is(15, "a CUT one isn't LOOSE", x.loose(), 6);
    x.becomes(1, 2);
    Edge.is(15, "one that is OFF isn't LOOSE", x.loose(), 4);
    x.becomes(0, 0);
    Edge.is(15, "WHOLE again", x.loose(), 5);
  }

  private static void p15Refusals() {
    Edge.refuses(15, "loose(), it FALLS", Edge::fallen, x -> x.loose(), -3);
    Edge.is(15, "loose() of a new object, which FALLS", new MastWind().loose(), -3);
    Edge.changesNothing(15, "loose()", Edge::full, x -> x.loose());
  }
}
