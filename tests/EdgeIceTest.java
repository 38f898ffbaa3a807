/** The edges of promises 22 to 27, a method a sentence. */
public final class EdgeIceTest {

  public static void main(String[] args) {
    p22WhatTheyWere();
    p22Refusals();
    p23Cuts();
    p23EndsOfOdds();
    p23OnlyWithIce();
    p24NoIce();
    p24FirstSix();
    p24FallsAboveAll();
    p24WithoutSign();
    p24GoneIsNone();
    p24WeightIsGoneToo();
    p24LeastAsBits();
    p24ChangesNothing();
    p25Jerk();
    p25Edges();
    p25Refusals();
    p26Few();
    p26Turns();
    p26GreatestSize();
    p26Tiredness();
    p26OneBehindTheOther();
    p26Refusals();
    p27LeastWholeNumber();
    p27AtMost();
    p27None();
    p27Refusals();
    Due.finish();
  }

  // ---- promise 22

  private static void p22WhatTheyWere() {
    MastWind x = Edge.full();
    Edge.is(22, "odds(1, 100)", x.odds(1, 100), 40);
    Edge.is(22, "odds(1, 0)", x.odds(1, 0), 100);
    Edge.is(22, "odds(1, 7)", x.odds(1, 7), 0);
    Edge.is(22, "odds(1, 8)", x.odds(1, 8), 7);
    Edge.is(22, "the other one's are as they were", x.odds(0, 0), 20);
    Edge.is(22, "ICE is as it was", x.piece(1, 5), 7);
  }

  private static void p22Refusals() {
    Edge.refusesEach(22, "odds(i, 5)", Edge::full, (x, i) -> x.odds(i, 5), -1, -1, 2, 9, 10);
    Edge.refusesEach(22, "odds(0, n)", Edge::full, (x, n) -> x.odds(0, n), -1, -1, 101);
    Edge.refuses(22, "odds(2, 101), both", Edge::full, x -> x.odds(2, 101), -1);
    Edge.is(22, "odds(0, 0) of none", new MastWind().odds(0, 0), -1);
  }

  // ---- promise 23

  private static MastWind icy(int... odds) {
    StringBuilder text = new StringBuilder();
    for (int i = 0; i < odds.length; i++) {
      text.append("p0 ").append(i + 1).append(" 1 1 1;");
    }
    MastWind x = Due.mast(text.toString());
    for (int i = 0; i < odds.length; i++) {
      x.ice(i, 1);
      x.odds(i, odds[i]);
    }
    return x;
  }

  private static void p23Cuts() {
    Edge.is(23, "without PIECES", new MastWind().falls(), 1000000);
    Edge.is(23, "three, with nothing to cut", icy(1, 1, 1).falls(), 970299);
    // 970299 by 100 is 9702, 9702 times 99 is less than 960596.01.
    Edge.is(23, "four, cut", icy(1, 1, 1, 1).falls(), 960596);
    Edge.is(23, "five, each cut", icy(1, 1, 1, 1, 1).falls(), 950990);
    Edge.is(23, "six, cut PIECE by PIECE", icy(51, 14, 7, 32, 2, 58).falls(), 109688);
    Edge.is(23, "six, the other way round", icy(58, 2, 32, 7, 14, 51).falls(), 109687);
    Edge.is(23, "six, PIECE by PIECE from below up", icy(18, 47, 52, 15, 38, 7).falls(), 102239);
    Edge.changesNothing(23, "falls()", Edge::full, x -> x.falls());
  }

  private static void p23EndsOfOdds() {
    Edge.is(23, "ODDS 0", icy(0).falls(), 1000000);
    Edge.is(23, "ODDS 0 of all of six", icy(0, 0, 0, 0, 0, 0).falls(), 1000000);
    Edge.is(23, "ODDS 1", icy(1).falls(), 990000);
    Edge.is(23, "ODDS 99", icy(99).falls(), 10000);
    Edge.is(23, "ODDS 99 thrice", icy(99, 99, 99).falls(), 1);
    Edge.is(23, "ODDS 99 four times", icy(99, 99, 99, 99).falls(), 0);
    Edge.is(23, "ODDS 100", icy(100).falls(), 0);
    Edge.is(23, "ODDS 100 of one", icy(0, 100, 0).falls(), 0);
  }

  private static void p23OnlyWithIce() {
    MastWind x = icy(50, 30);
    Edge.is(23, "both have ICE", x.falls(), 350000);
    x.ice(0, 0);
    Edge.is(23, "the upper one has ICE", x.falls(), 700000);
    x.ice(1, 0);
    Edge.is(23, "none has ICE", x.falls(), 1000000);
    x.ice(0, 20);
    Edge.is(23, "how much ICE does not matter", x.falls(), 500000);
    Edge.is(23, "ODDS stay without ICE", x.odds(1, 0), 30);
  }

  // ---- promise 24

  /** The ROPE gives 2000, the FOOT takes 40 l; ICE of 20 takes 40 times its HEIGHT, ICE of 1 nothing. */
  private static MastWind eight() {
    MastWind x = Due.mast("p0 1 1 0 9;p0 2 1 0 9;p0 3 1 0 9;p0 4 1 0 9;p0 5 1 0 9;p0 6 1 0 9;p0 7 1 0 9;",
        "p0 8 1 0 9;f40;r7 e 8 1 500;");
    x.wind(20, -1);
    return x;
  }

  private static void p24NoIce() {
    Edge.is(24, "no PIECES", new MastWind().uneven(), 0);
    Edge.is(24, "no ICE", eight().uneven(), 0);
    MastWind x = eight();
    x.ice(7, 20);
    Edge.is(24, "the last one alone is the first one with ICE", x.uneven(), 1);
  }

  private static void p24FirstSix() {
    MastWind x = eight();
    for (int i = 0; i < 8; i++) {
      x.ice(i, 20);
    }
    Edge.is(24, "eight have ICE, the first six count", x.uneven(), 63);
    Edge.is(24, "their ICE stays", x.told(4), 160);
    x.ice(0, 0);
    Edge.is(24, "seven have ICE", x.uneven(), 63);
    x.ice(1, 0);
    Edge.is(24, "six have ICE", x.uneven(), 63);
    x.ice(2, 0);
    Edge.is(24, "five have ICE", x.uneven(), 31);
    // By numbers: the ICE of PIECE 7 is the seventh, and never gone.
    MastWind y = Due.mast("p0 1 1 0 9;p0 2 1 0 9;p0 3 1 0 9;p0 4 1 0 9;p0 5 1 0 9;p0 6 1 0 9;p0 7 1 0 9;f40;r6 e 8 1 500;");
    y.wind(20, -1);
    y.ice(6, 20);
    Edge.is(24, "of one the bit is the first", y.uneven(), 1);
    for (int i = 0; i < 6; i++) {
      y.ice(i, 1);
    }
    Edge.is(24, "the seventh does not count", y.uneven(), 0);
    y.ice(0, 0);
    Edge.is(24, "as the sixth it does", y.uneven(), 32);
  }

  private static void p24FallsAboveAll() {
    // REST is 1000 less 400, or less 800 with ICE; a FOOT of 2 holds 600 at 300: it is not below 0 there.
    MastWind x = Due.mast("p0 10 10 10 9;f2;r0 e 10 1 200;");
    x.wind(20, -1);
    x.ice(0, 20);
    Edge.is(24, "with ICE it stands", x.stand(), 117);
    Edge.is(24, "without ICE it FALLS", x.uneven(), 1);
    MastWind y = Due.mast("p0 1 1 99 1;p0 2 1 99 1;p0 3 1 1 1;f1;");
    y.wind(10, -1);
    y.ice(2, 2);
    // -300 without ICE, and with it -303 FALLS: a LEAN of 300 is less than that.
    Edge.is(24, "REST with ICE", y.rest(0), -99 - 198 - 6);
    Edge.is(24, "with ICE it FALLS", y.stand(), Edge.FALLS);
    Edge.is(24, "FALLS is above a LEAN of 300", y.uneven(), 0);
    y.ice(2, 0);
    Edge.is(24, "without ICE it stands", y.stand(), -300);
    MastWind z = Due.mast("p0 10 10 10 9;");
    z.ice(0, 20);
    Edge.is(24, "it FALLS in any case: the least", z.uneven(), 0);
  }

  private static void p24WithoutSign() {
    // The ROPE gives 1000, the WIND takes 400, with ICE of 20 800; the FOOT takes 100 l.
    MastWind x = Due.mast("p0 10 10 10 9;f100;r0 e 10 1 200;");
    x.wind(20, -1);
    Edge.is(24, "to the east", x.stand(), 6);
    x.ice(0, 20);
    Edge.is(24, "less with ICE: gone is worse", x.uneven(), 1);
    x.becomes(0, 1);
    // -800 of the WIND, 2 of the WEIGHT more: 800 of the FOOT don't hold it.
    Edge.is(24, "to the west", x.stand(), -9);
    Edge.is(24, "more with ICE: there is worse", x.uneven(), 0);
    x.wind(20, 1);
    Edge.is(24, "to the east", x.stand(), 8);
    Edge.is(24, "more with ICE, to the east", x.uneven(), 0);
    x.becomes(0, 0);
    x.tight(0, 120);
    x.wind(20, -1);
    // 600 less 800, and 600 less 400.
    Edge.is(24, "with ICE", x.stand(), -2);
    Edge.is(24, "2 against -2: of alike ones the least", x.uneven(), 0);
    x.tight(0, 122);
    // 610 less 800 is -190: -2; 610 less 400 is 210: 2.
    Edge.is(24, "2 against -2 again", x.uneven(), 0);
    x.tight(0, 140);
    // 700 less 800: -1; 700 less 400: 3.
    Edge.is(24, "3 against -1", x.uneven(), 1);
    x.tight(0, 100);
    // 500 less 800: -3; 500 less 400: 1.
    Edge.is(24, "1 against -3", x.uneven(), 0);
  }

  private static void p24GoneIsNone() {
    // ICED: with ICE of 1 it FACES 6, without 5: 800 are left of the ROPE's 1000, or 760.
    MastWind x = Due.mast("p2 10 10 10 9;f10;r0 e 10 1 200;");
    x.wind(20, -1);
    x.ice(0, 1);
    Edge.is(24, "ICE of 1 gone is worse", x.uneven(), 1);
    // LEANS of 0 and 1: 3 of the WIND, or 4 and more, less 4 l.
    MastWind y = Due.mast("p0 1 1 3 9;f4;");
    y.wind(10, 1);
    y.ice(0, 2);
    Edge.is(24, "a LEAN of 1 with ICE", y.stand(), 1);
    Edge.is(24, "1 is above 0", y.uneven(), 0);
    MastWind z = Due.mast("p0 1 1 3 9;f4;r0 e 1 1 7;");
    z.wind(10, -1);
    z.ice(0, 2);
    Edge.is(24, "a LEAN of 0 with ICE", z.stand(), 0);
    Edge.is(24, "1 without ICE is above 0", z.uneven(), 1);
  }

  private static void p24WeightIsGoneToo() {
    /*
     * ARM 49: the ROPE gives 1470 and loses 49 for each whole 49 l by 1000. The WIND takes 495, or
     * 198 without ICE, the FOOT 5 l; WEIGHT gives 2.079 l, or 0.099 l without ICE.
     */
    MastWind x = Due.mast("p0 99 1 10 9;f5;r0 e 99 1 30;");
    x.wind(5, -1);
    x.ice(0, 20);
    int with = x.stand();
    Edge.is(24, "with ICE it leans more", x.uneven(), 0);
    x.ice(0, 0);
    Edge.is(24, "by its WEIGHT, not by the WIND", with > x.stand() ? 1 : 0, 1);
    // The WEIGHT of one without ICE, 8.91 l, counts on: with a FOOT of 14 it is as above, without it 68 and 78.
    MastWind y = Due.mast("p0 90 99 0 9;p0 99 1 10 9;f14;r1 e 99 1 30;");
    y.wind(5, -1);
    y.ice(1, 20);
    Edge.is(24, "the WEIGHT of a lower one without ICE", y.uneven(), 0);
    // The same with one above it, 9.801 l.
    MastWind z = Due.mast("p0 98 1 10 9;p0 99 99 0 9;f15;r0 e 99 1 30;");
    z.wind(5, -1);
    z.ice(0, 20);
    Edge.is(24, "the WEIGHT of an upper one without ICE", z.uneven(), 0);
  }

  private static void p24LeastAsBits() {
    MastWind x = eight();
    for (int i = 0; i < 4; i++) {
      x.ice(i, 1);
    }
    Edge.is(24, "ICE of 1 changes nothing: the empty set", x.uneven(), 0);
    x.ice(2, 20);
    Edge.is(24, "the one that changes something", x.uneven(), 4);
    x.ice(0, 20);
    // At a HEIGHT of 1 40, as much as the FOOT gives for a LEAN of 1.
    Edge.is(24, "two that do", x.uneven(), 5);
  }

  private static void p24ChangesNothing() {
    Edge.changesNothing(24, "uneven()", Edge::full, x -> x.uneven());
    Edge.changesNothing(24, "uneven(), it FALLS", Edge::fallen, x -> x.uneven());
  }

  // ---- promise 25

  /** ARMS are 1, and a PULL is the TIGHT at all l: THE STAND is where TIGHT to the east is more by. */
  private static MastWind held(int east, int west) {
    return Due.mast("p0 1 1 0 1;f1;r0 e 1 1 " + east + ";r0 w 1 1 " + west + ";");
  }

  private static void p25Jerk() {
    Edge.is(25, "20 by 2 more than 30 to the west", held(20, 30).after(0), -40);
    Edge.is(25, "30 by 2 more than 20 to the east", held(20, 30).after(1), 35);
    Edge.is(25, "21 by 2 is cut", held(21, 30).after(0), -40);
    Edge.is(25, "31 by 2 is cut", held(20, 31).after(1), 35);
    Edge.is(25, "1 by 2 is 0", held(1, 0).after(0), 0);
    Edge.is(25, "2 by 2 is 1", held(2, 0).after(0), -1);
    Edge.is(25, "a LOOSE one", held(0, 7).after(0), -7);
    // ARM 5: what it PULLS by 2, cut, times the ARM.
    MastWind x = Due.mast("p0 10 1 0 9;f50;r0 e 10 20 50;r0 w 10 20 51;");
    Edge.is(25, "THE STAND ahead", x.stand(), -1);
    Edge.is(25, "-255 and 25 times 5", x.after(0), -8);
    Edge.is(25, "250 and 25 times 5", x.after(1), 7);
    // What it PULLS in THE STAND ahead, not its TIGHT: 1 less from 10 on.
    x.tight(1, 0);
    // 250 less 50 l.
    Edge.is(25, "THE STAND ahead of a looser one", x.stand(), 5);
    Edge.is(25, "PULL ahead", x.pull(0), 50);
    x.tight(0, 130);
    // At 12 645 less 5 of the west one less 600, at 13 50 less.
    Edge.is(25, "THE STAND ahead of a tighter one", x.stand(), 12);
    Edge.is(25, "PULL ahead", x.pull(0), 129);
    // 129 by 2 is 64, times 5: -320; to the west the west one PULLS nothing; 7 times 50 is 350.
    Edge.is(25, "by what it PULLS there", x.after(0), -7);
  }

  private static void p25Edges() {
    Edge.is(25, "AFTER at -300", held(200, 200).after(0), -300);
    Edge.is(25, "AFTER at -300, cut", held(201, 200).after(0), -300);
    Edge.is(25, "AFTER beyond -300", held(202, 200).after(0), Edge.FALLS);
    Edge.is(25, "AFTER at 299", held(200, 198).after(1), 299);
    Edge.is(25, "AFTER at 299, cut", held(200, 199).after(1), 299);
    Edge.is(25, "AFTER beyond 299", held(200, 200).after(1), Edge.FALLS);
  }

  private static MastWind broken(int how) {
    MastWind x = Edge.full();
    x.becomes(1, how);
    return x;
  }

  private static void p25Refusals() {
    Edge.refusesEach(25, "after(r)", Edge::full, (x, r) -> x.after(r), -1000000001, -1, 2, 3, 11, 12);
    Edge.refusesEach(25, "after(r), it FALLS too", Edge::fallen, (x, r) -> x.after(r), -1000000001, -1, 2, 12);
    Edge.is(25, "after(0) of none", new MastWind().after(0), -1000000001);
    Edge.refuses(25, "after(1), CUT", () -> broken(1), x -> x.after(1), Edge.FALLS);
    Edge.refuses(25, "after(1), OFF", () -> broken(2), x -> x.after(1), Edge.FALLS);
    Edge.refuses(25, "after(0), it FALLS ahead", Edge::fallen, x -> x.after(0), Edge.FALLS);
    Edge.refuses(25, "after(0), it FALLS AFTER", () -> held(202, 200), x -> x.after(0), Edge.FALLS);
    Edge.changesNothing(25, "after(0)", Edge::full, x -> x.after(0));
    Edge.changesNothing(25, "after(1)", Edge::full, x -> x.after(1));
    // It FALLS ahead, and would stand with the east one CUT.
    MastWind y = held(400, 0);
    Edge.is(25, "it FALLS ahead", y.stand(), Edge.FALLS);
    Edge.is(25, "and would stand without it", y.becomes(0, 1) + y.stand(), 0);
    y.becomes(0, 0);
    Edge.is(25, "it FALLS ahead: none", y.after(0), Edge.FALLS);
  }

  // ---- promise 26

  private static void swings(String name, long many, long greatest, long tiredness, int... elements) {
    MastWind x = new MastWind();
    Due.lay(x, 0, 2, elements);
    Edge.is(26, "how many, " + name, x.swings(0, 0), many);
    Edge.is(26, "the greatest size, " + name, x.swings(0, 1), greatest);
    Edge.is(26, "TIREDNESS, " + name, x.swings(0, 2), tiredness);
    for (int i = 0; i < elements.length; i++) {
      Edge.is(26, "the ROW that is read stays, " + name, x.element(0, i), elements[i]);
    }
  }

  private static void p26Few() {
    swings("an empty ROW", 0, 0, 0);
    swings("one element", 0, 0, 0, 5);
    swings("one element, the least", 0, 0, 0, Integer.MIN_VALUE);
    swings("two", 1, 20, 8, 5, 25);
    swings("two, down", 1, 20, 8, 25, 5);
    swings("two alike", 0, 0, 0, 5, 5);
    swings("three alike", 0, 0, 0, -5, -5, -5);
    int[] alike = new int[120];
    java.util.Arrays.fill(alike, 9);
    swings("120 alike", 0, 0, 0, alike);
  }

  private static void p26Turns() {
    swings("up and up", 1, 40, 64, 0, 10, 40);
    swings("down and down", 1, 40, 64, 40, 10, 0);
    swings("up and down", 2, 40, 64 + 27, 0, 40, 10);
    swings("down and up", 2, 40, 64 + 27, 40, 0, 30);
    swings("alike at the beginning", 1, 40, 64, 0, 0, 40);
    swings("alike at the end", 1, 40, 64, 0, 40, 40);
    swings("alike on the way", 1, 40, 64, 0, 20, 20, 40);
    swings("alike at a TURN", 2, 40, 128, 0, 40, 40, 40, 0);
    swings("alike at a TURN, below", 2, 40, 128, 40, 0, 0, 40);
    swings("alike, but not in a row", 4, 40, 256, 0, 40, 0, 40, 0);
    int[] zigzag = new int[120];
    for (int i = 0; i < 120; i++) {
      zigzag[i] = i % 2 == 0 ? -50 : 50;
    }
    swings("120 up and down", 119, 100, 119000, zigzag);
    int[] up = new int[120];
    for (int i = 0; i < 120; i++) {
      up[i] = i;
    }
    swings("120 up", 1, 119, 11 * 11 * 11, up);
  }

  private static void p26GreatestSize() {
    swings("0: without", 0, 0, 0);
    swings("1", 1, 1, 0, 0, 1);
    swings("just 2147483647", 1, 2147483647L, 1000000, 0, Integer.MAX_VALUE);
    swings("2147483648", 1, 2147483647L, 1000000, 0, Integer.MIN_VALUE);
    swings("2147483647 down", 1, 2147483647L, 1000000, -1, Integer.MIN_VALUE);
    swings("2147483646 down", 1, 2147483646L, 1000000, -2, Integer.MIN_VALUE);
    swings("4294967295", 1, 2147483647L, 1000000, Integer.MIN_VALUE, Integer.MAX_VALUE);
    swings("4294967295 twice", 2, 2147483647L, 2000000, Integer.MAX_VALUE, Integer.MIN_VALUE, Integer.MAX_VALUE);
    swings("the greatest comes first", 3, 90, 729 + 1 + 1, 0, 90, 80, 90);
    swings("the greatest comes last", 3, 90, 729 + 1 + 1, 90, 80, 90, 0);
  }

  private static void p26Tiredness() {
    swings("9 by 10 is 0", 1, 9, 0, 0, 9);
    swings("10 by 10 is 1", 1, 10, 1, 0, 10);
    swings("19 by 10 is 1", 1, 19, 1, 0, 19);
    swings("-9 by 10 is 0", 1, 9, 0, 0, -9);
    swings("999 by 10 is 99", 1, 999, 970299, 0, 999);
    swings("1000 by 10 is 100", 1, 1000, 1000000, 0, 1000);
    swings("1010 by 10 is 101: above 1000000", 1, 1010, 1000000, 0, 1010);
    // 1291 to the third power is above 2 to the 31st, 2097152 to the third power is 2 to the 63rd.
    swings("an int wraps around", 1, 12910, 1000000, 0, 12910);
    swings("a long wraps around", 1, 20971520, 1000000, 0, 20971520);
    swings("a long wraps around to a little", 1, 2147483640, 1000000, 0, 2147483640);
    swings("each for itself", 3, 1010, 2000000 + 970299, 0, 1000, -10, 989);
    int[] most = new int[120];
    for (int i = 0; i < 120; i++) {
      most[i] = i % 2 == 0 ? Integer.MIN_VALUE : Integer.MAX_VALUE;
    }
    swings("the most there may be", 119, 2147483647L, 119000000, most);
  }

  private static void p26OneBehindTheOther() {
    MastWind x = new MastWind();
    Due.lay(x, 0, 2, 0, 100, 0, 100);
    Due.lay(x, 1, 2, 0, 30, 20);
    x.row(2, 2, 0);
    Edge.is(26, "how many, the first ROW", x.swings(0, 0), 3);
    Edge.is(26, "how many, the second ROW", x.swings(1, 0), 2);
    Edge.is(26, "how many, the first ROW again", x.swings(0, 0), 3);
    Edge.is(26, "the greatest size, the first ROW", x.swings(0, 1), 100);
    Edge.is(26, "the greatest size, the second ROW", x.swings(1, 1), 30);
    Edge.is(26, "the greatest size, the empty ROW", x.swings(2, 1), 0);
    Edge.is(26, "TIREDNESS, the first ROW", x.swings(0, 2), 3000);
    Edge.is(26, "TIREDNESS, the second ROW", x.swings(1, 2), 28);
    Edge.is(26, "how many, the empty ROW", x.swings(2, 0), 0);
    Edge.is(26, "TIREDNESS, the empty ROW", x.swings(2, 2), 0);
  }

  private static void p26Refusals() {
    for (int what = 0; what <= 2; what++) {
      int w = what;
      Edge.refusesEach(26, "swings(d, " + what + ")", Edge::full, (x, d) -> x.swings(d, w), -1, -1, 8);
      Edge.refuses(26, "swings of nothing, what " + what, Edge::full, x -> x.swings(6, w), -11);
      Edge.refuses(26, "swings of a PIECE, what " + what, Edge::full, x -> x.swings(3, w), -12);
      Edge.refuses(26, "swings of bytes, what " + what, Edge::full, x -> x.swings(0, w), -12);
      Edge.refuses(26, "swings of shorts, what " + what, Edge::full, x -> x.swings(1, w), -12);
      Edge.refuses(26, "swings of an empty ROW of bytes, what " + what, Edge::full, x -> x.swings(5, w), -12);
      Edge.changesNothing(26, "swings(2, " + what + ")", Edge::full, x -> x.swings(2, w));
    }
    Edge.refusesEach(26, "swings(2, what)", Edge::full, (x, w) -> x.swings(2, w), -1, -1, 3);
    Edge.refuses(26, "swings(6, 3): nothing, too", Edge::full, x -> x.swings(6, 3), -1);
    Edge.refuses(26, "swings(6, -1): nothing, too", Edge::full, x -> x.swings(6, -1), -1);
    Edge.refuses(26, "swings(3, 3): a PIECE, too", Edge::full, x -> x.swings(3, 3), -1);
    Edge.refuses(26, "swings(0, -1): bytes, too", Edge::full, x -> x.swings(0, -1), -1);
    Edge.is(26, "swings(2, 0)", Edge.full().swings(2, 0), 2);
  }

  // ---- promise 27

  private static void years(int size, int mark, int due) {
    MastWind x = new MastWind();
    Due.lay(x, 7, 2, 0, size);
    Edge.is(27, "a SWING of " + size + ", MARK " + mark, x.years(7, mark), due);
  }

  private static void p27LeastWholeNumber() {
    // 20 by 10, to the third power: 8.
    years(20, 1, 1);
    years(20, 7, 1);
    years(20, 8, 1);
    years(20, 9, 2);
    years(20, 16, 2);
    years(20, 17, 3);
    years(10, 1, 1);
    years(10, 2, 2);
    years(1000, 1000000, 1);
    years(1000, 1000001, 2);
    years(1000, 999999999, 1000);
    years(1000, 1000000000, 1000);
    MastWind x = new MastWind();
    Due.lay(x, 0, 2, 0, 20, 0, 30);
    Edge.is(27, "8 and 8 and 27, MARK 43", x.years(0, 43), 1);
    Edge.is(27, "8 and 8 and 27, MARK 44", x.years(0, 44), 2);
    int[] most = new int[120];
    for (int i = 0; i < 120; i++) {
      most[i] = i % 2 == 0 ? Integer.MIN_VALUE : Integer.MAX_VALUE;
    }
    Due.lay(x, 0, 2, most);
    Edge.is(27, "the greatest TIREDNESS, the greatest MARK", x.years(0, 1000000000), 9);
    Edge.is(27, "the greatest TIREDNESS, a MARK as great", x.years(0, 119000000), 1);
    Edge.is(27, "the greatest TIREDNESS, a MARK just above", x.years(0, 119000001), 2);
  }

  private static void p27AtMost() {
    years(10, 999999, 999999);
    years(10, 1000000, 1000000);
    years(10, 1000001, 1000000);
    years(10, 1000000000, 1000000);
    // 10 to the third power is 1000.
    years(100, 1000000000, 1000000);
    years(100, 999999000, 999999);
    years(100, 999999001, 1000000);
    years(110, 1000000000, 751315);
    years(90, 1000000000, 1000000);
  }

  private static void p27None() {
    years(9, 1, -4);
    years(0, 1, -4);
    years(9, 1000000000, -4);
    MastWind x = new MastWind();
    x.row(0, 2, 0);
    Edge.is(27, "an empty ROW", x.years(0, 1), -4);
    x.row(0, 2, 1);
    Edge.is(27, "one element", x.years(0, 1000000000), -4);
    x.row(0, 2, 120);
    Edge.is(27, "120 alike", x.years(0, 1), -4);
  }

  private static void p27Refusals() {
    Edge.refusesEach(27, "years(d, 5)", Edge::full, (x, d) -> x.years(d, 5), -1, -1, 8);
    int[] marks = {0, -1, -65536, Integer.MIN_VALUE, Integer.MIN_VALUE + 1, 1000000001, Integer.MAX_VALUE - 1,
      Integer.MAX_VALUE};
    for (int mark : marks) {
      Edge.refuses(27, "years(2, " + mark + ")", Edge::full, x -> x.years(2, mark), -1);
      Edge.refuses(27, "years(6, " + mark + "): nothing, too", Edge::full, x -> x.years(6, mark), -1);
      Edge.refuses(27, "years(3, " + mark + "): a PIECE, too", Edge::full, x -> x.years(3, mark), -1);
      Edge.refuses(27, "years(0, " + mark + "): bytes, too", Edge::full, x -> x.years(0, mark), -1);
    }
    Edge.refuses(27, "years of nothing", Edge::full, x -> x.years(6, 5), -11);
    Edge.refuses(27, "years of a PIECE", Edge::full, x -> x.years(3, 5), -12);
    Edge.refuses(27, "years of bytes", Edge::full, x -> x.years(0, 5), -12);
    Edge.refuses(27, "years of shorts", Edge::full, x -> x.years(1, 5), -12);
    Edge.changesNothing(27, "years(2, 5)", Edge::full, x -> x.years(2, 5));
    // 50 and 52 to the third power are 265608.
    Edge.is(27, "years(2, 1000000000) of full", Edge.full().years(2, 1000000000), 3765);
  }
}
