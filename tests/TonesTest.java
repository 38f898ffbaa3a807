/** Promises 16 to 21: gusts and tones. */
public final class TonesTest {

  public static void main(String[] args) {
    gust();
    gusts();
    countOfOne();
    countOfTwo();
    tone();
    shedding();
    lock();
    Due.finish();
  }

  private static void gust() {
    MastWind x = new MastWind();
    Due.is("gust(1000)", x.gust(1000), -1);
    Due.is("gust(-1)", x.gust(-1), -1);
    for (int i = 1; i <= 8; i++) {
      Due.is("gust(999)", x.gust(i == 1 ? 0 : 999), i);
    }
    Due.is("a ninth", x.gust(0), -2);
    Due.is("a ninth, and out of range", x.gust(1000), -1);
    Due.is("told(8)", x.told(8), 8);
    Due.is("the upper end", x.gusts(1), 7 * 999);
    // 7 times 998001 is 6986007; 2643 times 2643 is 6985449.
    Due.is("the lower end", x.gusts(0), 2643);
  }

  private static void gusts() {
    MastWind x = new MastWind();
    Due.is("gusts(0) of none", x.gusts(0), 0);
    Due.is("gusts(1) of none", x.gusts(1), 0);
    x.gust(3);
    Due.is("gusts(0) of one", x.gusts(0), 3);
    x.gust(4);
    Due.is("gusts(0)", x.gusts(0), 5);
    Due.is("gusts(1)", x.gusts(1), 7);
    x.gust(3);
    Due.is("the root of 34, cut", x.gusts(0), 5);
    Due.is("gusts(2)", x.gusts(2), -1);
    Due.is("gusts(-1)", x.gusts(-1), -1);
  }

  private static void countOfOne() {
    // a is 10 less x times 10 by 100: 0 from 100 on, -1 from 110 on.
    MastWind x = Due.mast("p0 20 10 0 10;");
    Due.is("count(0)", x.count(0), 0);
    Due.is("count(109)", x.count(109), 0);
    Due.is("count(110)", x.count(110), 1);
    Due.is("count(9999)", x.count(9999), 1);
    Due.is("count(10000)", x.count(10000), -1);
    Due.is("count(-1)", x.count(-1), -1);
    // ICE is WEIGHT too: a is -1 from 37 on.
    x.ice(0, 20);
    Due.is("count(36) with ICE", x.count(36), 0);
    Due.is("count(37) with ICE", x.count(37), 1);
  }

  private static void countOfTwo() {
    MastWind x = Due.mast("p0 20 10 0 5;p0 30 1 0 5;");
    // 10000, and 5000 - 25000000 by 10000 is 2500.
    Due.is("count(0)", x.count(0), 0);
    // 4000, and 5000 - 6250 is below 0.
    Due.is("count(60)", x.count(60), 1);
    // 5000, and 5000 - 5000 is 0: not below it.
    Due.is("count(50)", x.count(50), 0);
    // The lower q is 0: 25000000 by 1 is taken off.
    Due.is("count(100)", x.count(100), 1);
    // -1000, and 4000 + 25000 (x times 1 by 100 is 1).
    Due.is("count(110)", x.count(110), 1);
    // -70000, and -3000 + 357.
    Due.is("count(800)", x.count(800), 2);
    // -50000 at 600, and -1000 + 500: below 0; at 500 it is -40000, and 0 + 625.
    Due.is("count(600)", x.count(600), 2);
    Due.is("count(500)", x.count(500), 1);
    // At 9999 a is 1, 99, 0: q is 1000; 99000 - 9801000; 0 + 9801000000 by 9702000.
    MastWind y = Due.mast("p0 20 1 0 1;p0 30 1 0 99;p0 40 1 0 99;");
    Due.is("count(9999)", y.count(9999), 1);
    // At 200 a is 0, 98, -11: q is 0; 98000 - 1000000 by 1; -11000 + 9801000000 by 902000.
    MastWind z = Due.mast("p0 20 1 0 1;p0 30 1 0 1;p0 40 55 0 99;");
    Due.is("count(200)", z.count(200), 2);
  }

  private static void tone() {
    MastWind x = Due.mast("p0 20 10 0 5;p0 30 1 0 5;");
    // Up to 59 the lower q is 5000 or more, at 60 it is 4000.
    Due.is("tone(0)", x.tone(0), 60);
    // From 600 on the upper one's -1000 is more than the 500 that comes from below.
    Due.is("tone(1)", x.tone(1), 600);
    Due.is("tone(2)", x.tone(2), -4);
    Due.is("tone(9)", x.tone(9), -4);
    Due.is("tone(10)", x.tone(10), -1);
    Due.is("tone(-1)", x.tone(-1), -1);
    Due.is("count(599)", x.count(599), 1);
    Due.is("count(59)", x.count(59), 0);
    MastWind stiff = Due.mast("p0 1 1 0 99;");
    // a is -1 from 10000 on, which is no x.
    Due.is("tone(0) of a stiff one", stiff.tone(0), -4);
    MastWind less = Due.mast("p0 1 1 0 98;");
    Due.is("tone(0) of a less stiff one", less.tone(0), 9900);
  }

  private static void shedding() {
    MastWind x = Due.mast("p0 20 10 0 5;p1 30 1 7 5;");
    Due.is("shedding(0, 99)", x.shedding(0, 99), 1980);
    Due.is("shedding(0, 0)", x.shedding(0, 0), 0);
    // The AREA itself, not what it FACES.
    Due.is("shedding(1, 10)", x.shedding(1, 10), 28);
    x.ice(1, 20);
    Due.is("shedding(1, 10) with ICE", x.shedding(1, 10), 28);
    Due.is("shedding(2, 1)", x.shedding(2, 1), -1);
    Due.is("shedding(-1, 1)", x.shedding(-1, 1), -1);
    Due.is("shedding(0, 100)", x.shedding(0, 100), -1);
    Due.is("shedding(0, -1)", x.shedding(0, -1), -1);
  }

  private static void lock() {
    MastWind x = Due.mast("p0 20 10 20 5;p0 30 1 7 5;");
    // TONE 0 is 60: SHEDDING is the SPEED, or 20 of it by 7.
    Due.is("first", x.lock(0, 0, 0, 0), 60);
    Due.is("last", x.lock(0, 0, 0, 1), 60);
    Due.is("first, BAND 5", x.lock(0, 0, 5, 0), 55);
    Due.is("last, BAND 5", x.lock(0, 0, 5, 1), 65);
    Due.is("first, BAND 99", x.lock(0, 0, 99, 0), 0);
    Due.is("last, BAND 99", x.lock(0, 0, 99, 1), 99);
    Due.is("first of the other", x.lock(1, 0, 0, 0), 21);
    Due.is("last of the other", x.lock(1, 0, 1, 1), 21);
    // TONE 1 is 600: at 99 the other sheds 282.
    Due.is("too far apart", x.lock(1, 1, 99, 0), -4);
    Due.is("no such TONE", x.lock(0, 2, 5, 0), -3);
    Due.is("no such TONE, either", x.lock(0, 9, 99, 1), -3);
    Due.is("no such PIECE", x.lock(2, 2, 5, 0), -1);
    Due.is("no such PIECE", x.lock(-1, 0, 5, 0), -1);
    Due.is("TONE 10", x.lock(0, 10, 5, 0), -1);
    Due.is("TONE -1", x.lock(0, -1, 5, 0), -1);
    Due.is("BAND 100", x.lock(0, 2, 100, 0), -1);
    Due.is("BAND -1", x.lock(0, 2, -1, 0), -1);
    Due.is("what 2", x.lock(0, 2, 5, 2), -1);
    Due.is("what -1", x.lock(0, 0, 5, -1), -1);
  }
}
