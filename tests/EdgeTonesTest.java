/** The edges of promises 16 to 21, a method a sentence. */
public final class EdgeTonesTest {

  public static void main(String[] args) {
    p16HowMany();
    p16NoRoom();
    p16Refusals();
    p17None();
    p17RootIsCut();
    p17Greatest();
    p17Refusals();
    p18EndsOfNumbers();
    p18BelowZero();
    p18WeightIsCut();
    p18ByOneIfThatIsZero();
    p18CutTowardZero();
    p18Greatest();
    p18Refusals();
    p19LeastNumber();
    p19EndsOfTones();
    p19EndsOfNumbers();
    p19Refusals();
    p20AreaOneAtLeast();
    p20Cut();
    p20Refusals();
    p21NotFartherApart();
    p21EndsOfSpeeds();
    p21EndsOfBands();
    p21None();
    p21NoSuchTone();
    p21Refusals();
    Due.finish();
  }

  // ---- promise 16

  private static MastWind gusty() {
    MastWind x = Edge.full();
    for (int i = x.told(8); i < 8; i++) {
      x.gust(999);
    }
    return x;
  }

  private static void p16HowMany() {
    MastWind x = new MastWind();
    for (int i = 1; i <= 8; i++) {
      Edge.is(16, "a TONE of the wind, number " + i, x.gust(i), i);
      Edge.is(16, "TONES told", x.told(8), i);
    }
    MastWind y = new MastWind();
    Edge.is(16, "gust(0)", y.gust(0), 1);
    Edge.is(16, "gust(999)", y.gust(999), 2);
    Edge.is(16, "0 and 999 are kept", y.gusts(1), 999);
  }

  private static void p16NoRoom() {
    MastWind x = gusty();
    Edge.is(16, "eight", x.told(8), 8);
    Edge.refuses(16, "a ninth", EdgeTonesTest::gusty, y -> y.gust(0), -2);
    Edge.refuses(16, "a ninth, twice", EdgeTonesTest::gusty, y -> y.gust(999) == -2 ? y.gust(999) : 0, -2);
    Edge.refusesEach(16, "a ninth, and out of range", EdgeTonesTest::gusty, (y, n) -> y.gust(n), -1, -1, 1000);
  }

  private static void p16Refusals() {
    Edge.refusesEach(16, "gust(size)", Edge::full, (x, n) -> x.gust(n), -1, -1, 1000);
  }

  // ---- promise 17

  private static void p17None() {
    MastWind x = new MastWind();
    Edge.is(17, "the lower end of none", x.gusts(0), 0);
    Edge.is(17, "the upper end of none", x.gusts(1), 0);
    x.gust(0);
    Edge.is(17, "the lower end of 0", x.gusts(0), 0);
    Edge.is(17, "the upper end of 0", x.gusts(1), 0);
  }

  private static void gustsAre(int lower, int upper, int... sizes) {
    MastWind x = new MastWind();
    for (int size : sizes) {
      x.gust(size);
    }
    Edge.is(17, "the lower end of " + sizes.length + " from " + sizes[0], x.gusts(0), lower);
    Edge.is(17, "the upper end of " + sizes.length + " from " + sizes[0], x.gusts(1), upper);
  }

  private static void p17RootIsCut() {
    gustsAre(1, 1, 1);
    gustsAre(1, 2, 1, 1);
    gustsAre(1, 3, 1, 1, 1);
    gustsAre(2, 4, 1, 1, 1, 1);
    gustsAre(2, 6, 2, 1, 1, 1, 1);
    // 24 is just below 25, and 25 is 25.
    gustsAre(4, 8, 4, 2, 2);
    gustsAre(5, 7, 3, 4);
    gustsAre(999, 999, 999);
    // 998001 and 1936 is just below 1000000, 998001 and 2025 just above it.
    gustsAre(999, 1043, 999, 44);
    gustsAre(1000, 1044, 999, 45);
  }

  private static void p17Greatest() {
    // 8 times 998001 is 7984008; 2825 times 2825 is 7980625, 2826 times 2826 is 7986276.
    gustsAre(2825, 7992, 999, 999, 999, 999, 999, 999, 999, 999);
  }

  private static void p17Refusals() {
    Edge.refusesEach(17, "gusts(what)", Edge::full, (x, n) -> x.gusts(n), -1, -1, 2);
    Edge.changesNothing(17, "gusts(0)", Edge::full, x -> x.gusts(0) + x.gusts(1));
  }

  // ---- promise 18

  private static void p18EndsOfNumbers() {
    MastWind x = Due.mast("p0 20 10 0 10;");
    Edge.is(18, "count(0)", x.count(0), 0);
    Edge.is(18, "count(9999)", x.count(9999), 1);
    Edge.is(18, "count(10000)", x.count(10000), -1);
    Edge.is(18, "count(-1)", x.count(-1), -1);
    Edge.is(18, "count(0) of none", new MastWind().count(0), 0);
    Edge.is(18, "count(9999) of none", new MastWind().count(9999), 0);
  }

  private static void p18BelowZero() {
    // a is 10 less x by 10, cut: 0 at 100, below 0 from 110 on.
    MastWind x = Due.mast("p0 20 10 0 10;");
    Edge.is(18, "q just above 0", x.count(99), 0);
    Edge.is(18, "q 0", x.count(100), 0);
    Edge.is(18, "q 0 still", x.count(109), 0);
    Edge.is(18, "q below 0", x.count(110), 1);
    // 10000 - 5000, and 5000 - 25000000 by 5000: 0 at 50.
    MastWind y = Due.mast("p0 20 10 0 5;p0 30 1 0 5;");
    Edge.is(18, "the upper q 0", y.count(50), 0);
    Edge.is(18, "the upper q 0 still", y.count(59), 0);
    Edge.is(18, "the upper q below 0", y.count(60), 1);
  }

  private static void p18WeightIsCut() {
    // WEIGHT 3: 33 by 100 times 3 is 0 and 99, 34 by 100 times 3 is 1 and 2.
    MastWind x = Due.mast("p0 20 3 0 1;");
    Edge.is(18, "198 by 100", x.count(66), 0);
    Edge.is(18, "201 by 100", x.count(67), 1);
    // With ICE of 20 it is 23.
    x.ice(0, 20);
    Edge.is(18, "184 by 100 with ICE", x.count(8), 0);
    Edge.is(18, "207 by 100 with ICE", x.count(9), 1);
    MastWind y = Due.mast("p3 20 3 0 1;");
    Edge.is(18, "WEIGHT of DAMPED, 198 by 100", y.count(18), 0);
    Edge.is(18, "WEIGHT of DAMPED, 209 by 100", y.count(19), 1);
  }

  private static void p18ByOneIfThatIsZero() {
    // At 200 a is 0, 98, -11: q is 0; 98000 - 1000000 by 1; -11000 + 9801000000 by 902000.
    MastWind x = Due.mast("p0 20 1 0 1;p0 30 1 0 1;p0 40 55 0 99;");
    Edge.is(18, "by 1 if q is 0", x.count(200), 2);
    // At 1000 a is 0 and 9: 9000 - 1000000, at 1099 too.
    MastWind y = Due.mast("p0 20 1 0 9;p0 30 1 0 1;");
    Edge.is(18, "the lower q 0", y.count(1000), 1);
    Edge.is(18, "the lower q 0, and a -9 of the upper one", y.count(1099), 1);
    // Of PIECE 0 there is none below: a is 0, and q 0, with whatever STIFFNESS.
    MastWind z = Due.mast("p0 20 1 0 99;");
    Edge.is(18, "PIECE 0 alone", z.count(9900), 0);
  }

  private static void p18CutTowardZero() {
    // 87000; 21000 - 169000000 by 87000 (1942) is 19058; 17000 - 324000000 by 19058 (17000) is 0.
    MastWind x = Due.mast("p0 20 2 0 74;p0 30 25 0 13;p0 40 4 0 18;");
    Edge.is(18, "cut, above 0", x.count(42), 0);
    // 51000; -97000 - 2401000000 by 51000 (47078) is -144078; -1000 + 144000000 by 144078 (999) is -1.
    MastWind y = Due.mast("p0 20 5 0 10;p0 30 96 0 49;p0 40 8 0 12;");
    Edge.is(18, "cut toward 0, below 0", y.count(165), 2);
    // -7000; -7000 - 49000000 by -7000 is just 0.
    MastWind z = Due.mast("p0 20 7 0 10;p0 30 4 0 7;");
    Edge.is(18, "1000000 times the square, just 0", z.count(352), 1);
    // 163000; 117000 - 47509 is 69491; 115000 - 13829 is 101171; 93000 - 9409000000 by 101171 (93000) is 0.
    MastWind u = Due.mast("p0 20 14 0 95;p0 30 2 0 88;p0 40 9 0 31;p0 50 3 0 97;");
    Edge.is(18, "1000000 times the square, just 0 of the top one", u.count(147), 0);
  }

  private static void p18Greatest() {
    String[] texts = {"p2 1 99 9 1;p2 2 99 9 99;p2 3 99 9 99;p2 4 99 9 99;p2 5 99 9 99;p2 6 99 9 99;",
      "p2 7 99 9 99;p2 8 99 9 99;p2 9 99 9 99;p2 10 99 9 99;"};
    MastWind x = Due.mast(texts);
    for (int i = 0; i < 10; i++) {
      x.ice(i, 20);
    }
    Edge.is(18, "all of ten", x.count(9999), 10);
    Edge.is(18, "none of ten", x.count(0), 0);
    // 9801000000 and more is beyond an int: at 9999 a is 1, 99, 0, and q 1000, -9702000, 1010.
    MastWind y = Due.mast("p0 20 1 0 1;p0 30 1 0 99;p0 40 1 0 99;");
    Edge.is(18, "numbers beyond an int", y.count(9999), 1);
  }

  private static void p18Refusals() {
    Edge.refusesEach(18, "count(x)", Edge::full, (x, n) -> x.count(n), -1, -1, 10000);
    Edge.changesNothing(18, "count(50)", Edge::full, x -> x.count(50));
  }

  // ---- promise 19

  private static void p19LeastNumber() {
    MastWind x = Due.mast("p0 20 10 0 5;p0 30 1 0 5;");
    int[] tones = {60, 600};
    for (int n = 0; n < 2; n++) {
      Edge.is(19, "tone(" + n + ")", x.tone(n), tones[n]);
      Edge.is(19, "COUNT there", x.count(tones[n]), n + 1);
      Edge.is(19, "COUNT just below", x.count(tones[n] - 1), n);
    }
    Edge.is(19, "tone(2): none", x.tone(2), -4);
    Edge.is(19, "tone(0) without PIECES: none", new MastWind().tone(0), -4);
  }

  private static MastWind ten() {
    return Due.mast("p0 1 9 9 9;p0 2 9 9 9;p0 3 9 9 9;p0 4 9 9 9;p0 5 9 9 9;", "p0 6 9 9 9;p0 7 9 9 9;p0 8 9 9 9;p0 9 9 9 9;",
        "p0 10 9 9 9;");
  }

  private static void p19EndsOfTones() {
    MastWind x = ten();
    int last = -1;
    for (int n = 0; n <= 9; n++) {
      int tone = x.tone(n);
      Edge.is(19, "tone(" + n + ") of ten is there, and no less than the one below", tone >= last && tone >= 0 ? 1 : 0, 1);
      Edge.is(19, "COUNT at tone(" + n + ") is above n", x.count(tone) > n ? 1 : 0, 1);
      Edge.is(19, "COUNT just below tone(" + n + ") isn't", x.count(tone - 1) > n ? 1 : 0, 0);
      last = tone;
    }
    Edge.is(19, "tone(10) of ten", ten().tone(10), -1);
    MastWind nine = Due.mast("p0 1 9 9 9;p0 2 9 9 9;p0 3 9 9 9;p0 4 9 9 9;p0 5 9 9 9;",
        "p0 6 9 9 9;p0 7 9 9 9;p0 8 9 9 9;p0 9 9 9 9;");
    Edge.is(19, "tone(8) of nine is there", nine.tone(8) > 0 ? 1 : 0, 1);
    Edge.is(19, "tone(9) of nine", nine.tone(9), -4);
  }

  private static void p19EndsOfNumbers() {
    MastWind last = Due.mast("p0 20 2 0 99;p0 30 99 0 99;p0 40 93 0 97;");
    last.ice(1, 1);
    Edge.is(19, "COUNT of 9998", last.count(9998), 2);
    Edge.is(19, "COUNT of 9999", last.count(9999), 3);
    Edge.is(19, "a TONE of 9999", last.tone(2), 9999);
    // a is below 0 from 10000 on, which is no x.
    MastWind stiff = Due.mast("p0 1 1 0 99;");
    Edge.is(19, "a TONE of 10000 is none", stiff.tone(0), -4);
    MastWind heavy = Due.mast("p2 1 99 0 1;");
    heavy.ice(0, 20);
    // 258 by 100 is 2 at once: a is -1 at 1.
    Edge.is(19, "a TONE of 1", heavy.tone(0), 1);
  }

  private static void p19Refusals() {
    Edge.refusesEach(19, "tone(n)", Edge::full, (x, n) -> x.tone(n), -1, -1, 10);
    Edge.refuses(19, "tone(2), none", Edge::full, x -> x.tone(2), -4);
    Edge.refuses(19, "tone(9), none", Edge::full, x -> x.tone(9), -4);
    Edge.changesNothing(19, "tone(0)", Edge::full, x -> x.tone(0));
  }

  // ---- promise 20

  private static void p20AreaOneAtLeast() {
    MastWind x = Due.mast("p0 20 10 0 5;p1 30 1 1 5;p2 40 1 2 5;");
    Edge.is(20, "AREA 0 is 1", x.shedding(0, 99), 1980);
    Edge.is(20, "AREA 1 is 1", x.shedding(1, 99), 1980);
    Edge.is(20, "AREA 2", x.shedding(2, 99), 990);
    Edge.is(20, "SPEED 0", x.shedding(0, 0), 0);
    x.ice(2, 20);
    Edge.is(20, "AREA, not what it FACES", x.shedding(2, 99), 990);
  }

  private static void p20Cut() {
    MastWind x = Due.mast("p0 20 10 99 5;p0 30 10 7 5;");
    Edge.is(20, "80 by 99", x.shedding(0, 4), 0);
    Edge.is(20, "100 by 99", x.shedding(0, 5), 1);
    Edge.is(20, "1960 by 99", x.shedding(0, 98), 19);
    Edge.is(20, "1980 by 99", x.shedding(0, 99), 20);
    Edge.is(20, "20 by 7, cut behind the product", x.shedding(1, 6), 17);
  }

  private static void p20Refusals() {
    Edge.refusesEach(20, "shedding(i, 5)", Edge::full, (x, i) -> x.shedding(i, 5), -1, -1, 2, 9, 10);
    Edge.refusesEach(20, "shedding(1, speed)", Edge::full, (x, u) -> x.shedding(1, u), -1, -1, 100);
    Edge.refuses(20, "shedding(2, 100), both", Edge::full, x -> x.shedding(2, 100), -1);
    Edge.changesNothing(20, "shedding(1, 5)", Edge::full, x -> x.shedding(1, 5));
    Edge.is(20, "shedding(0, 0) of none", new MastWind().shedding(0, 0), -1);
  }

  // ---- promise 21

  /** TONE 0 is 60, and SHEDDING 20 times the SPEED by the AREA. */
  private static MastWind tuned(int area) {
    return Due.mast("p0 20 10 " + area + " 5;");
  }

  private static void locks(MastWind x, int band, int first, int last) {
    Edge.is(21, "the first SPEED, BAND " + band, x.lock(0, 0, band, 0), first);
    Edge.is(21, "the last SPEED, BAND " + band, x.lock(0, 0, band, 1), last);
  }

  private static void p21NotFartherApart() {
    MastWind x = tuned(20);
    Edge.is(21, "TONE 0", x.tone(0), 60);
    locks(x, 0, 60, 60);
    locks(x, 1, 59, 61);
    locks(x, 38, 22, 98);
    MastWind y = tuned(1);
    locks(y, 0, 3, 3);
    locks(y, 19, 3, 3);
    locks(y, 20, 2, 4);
    locks(y, 39, 2, 4);
    locks(y, 40, 1, 5);
  }

  private static void p21EndsOfSpeeds() {
    MastWind x = tuned(20);
    locks(x, 39, 21, 99);
    locks(x, 40, 20, 99);
    locks(x, 59, 1, 99);
    locks(x, 60, 0, 99);
    MastWind y = tuned(99);
    // At 99 1980 by 99 is 20, at 98 19.
    locks(y, 40, 99, 99);
    locks(y, 41, 95, 99);
    // 119 by 100 is 1, 238 by 100 is 2: TONE 0 is 2, as near to SPEED 0 as it may be.
    MastWind heavy = Due.mast("p0 20 99 0 1;");
    heavy.ice(0, 20);
    Edge.is(21, "TONE 0", heavy.tone(0), 2);
    locks(heavy, 2, 0, 0);
    locks(heavy, 17, 0, 0);
    locks(heavy, 18, 0, 1);
  }

  private static void p21EndsOfBands() {
    MastWind x = tuned(20);
    locks(x, 0, 60, 60);
    locks(x, 99, 0, 99);
    Edge.is(21, "BAND 100", x.lock(0, 0, 100, 0), -1);
    Edge.is(21, "BAND -1", x.lock(0, 0, -1, 0), -1);
  }

  private static void p21None() {
    locks(tuned(99), 39, -4, -4);
    locks(tuned(99), 0, -4, -4);
    MastWind heavy = Due.mast("p0 20 99 0 1;");
    heavy.ice(0, 20);
    locks(heavy, 1, -4, -4);
    locks(heavy, 0, -4, -4);
  }

  private static void p21NoSuchTone() {
    Edge.refuses(21, "no such TONE", Edge::full, x -> x.lock(0, 2, 99, 0), -3);
    Edge.refuses(21, "no such TONE, the last SPEED", Edge::full, x -> x.lock(1, 9, 0, 1), -3);
    Edge.is(21, "the last TONE there is", Edge.full().lock(0, 1, 0, 0) == -3 ? 1 : 0, 0);
    MastWind stiff = Due.mast("p0 1 1 0 99;");
    Edge.is(21, "no TONE at all", stiff.lock(0, 0, 99, 0), -3);
  }

  private static void p21Refusals() {
    Edge.refusesEach(21, "lock(i, 0, 5, 0)", Edge::full, (x, i) -> x.lock(i, 0, 5, 0), -1, -1, 2, 9, 10);
    Edge.refusesEach(21, "lock(0, tone, 5, 0)", Edge::full, (x, n) -> x.lock(0, n, 5, 0), -1, -1, 10);
    Edge.refusesEach(21, "lock(0, 0, band, 0)", Edge::full, (x, n) -> x.lock(0, 0, n, 0), -1, -1, 100);
    Edge.refusesEach(21, "lock(0, 0, 5, what)", Edge::full, (x, n) -> x.lock(0, 0, 5, n), -1, -1, 2);
    // No such TONE either: -1 is the first one.
    Edge.refuses(21, "lock(2, 9, 5, 0)", Edge::full, x -> x.lock(2, 9, 5, 0), -1);
    Edge.refuses(21, "lock(-1, 9, 5, 0)", Edge::full, x -> x.lock(-1, 9, 5, 0), -1);
    Edge.refuses(21, "lock(0, 9, 100, 0)", Edge::full, x -> x.lock(0, 9, 100, 0), -1);
    Edge.refuses(21, "lock(0, 9, -1, 0)", Edge::full, x -> x.lock(0, 9, -1, 0), -1);
    Edge.refuses(21, "lock(0, 9, 5, 2)", Edge::full, x -> x.lock(0, 9, 5, 2), -1);
    Edge.refuses(21, "lock(0, 9, 5, -1)", Edge::full, x -> x.lock(0, 9, 5, -1), -1);
    Edge.is(21, "lock of none", new MastWind().lock(0, 0, 5, 0), -1);
    Edge.changesNothing(21, "lock(0, 0, 99, 0)", Edge::full, x -> x.lock(0, 0, 99, 0));
  }
}
