/** Promises 8 to 15: winds and stands. */
public final class WindsTest {

  private static final int FALLS = -1000000003;

  public static void main(String[] args) {
    wind();
    share();
    push();
    rest();
    stand();
    standAtTheEdges();
    standIsNotSoughtOnTheOtherSide();
    stands();
    standsToTheWest();
    pull();
    loose();
    Due.finish();
  }

  private static void wind() {
    MastWind x = Due.mast("p0 10 5 10 9;");
    Due.is("wind(99, 1)", x.wind(99, 1), 0);
    Due.is("wind(100, 1)", x.wind(100, 1), -1);
    Due.is("wind(-1, 1)", x.wind(-1, 1), -1);
    Due.is("wind(1, 0)", x.wind(1, 0), -1);
    Due.is("wind(1, 2)", x.wind(1, 2), -1);
    Due.is("wind(1, -2)", x.wind(1, -2), -1);
    Due.is("the wind is as it was", x.push(0), 980);
    Due.is("wind(10, -1)", x.wind(10, -1), 99);
    Due.is("the other SIDE", x.push(0), -10);
    Due.is("wind(0, -1)", x.wind(0, -1), 10);
  }

  private static void share() {
    MastWind x = Due.mast("p0 10 5 10 9;");
    Due.is("share(0, 200)", x.share(0, 200), 100);
    Due.is("share(0, 201)", x.share(0, 201), -1);
    Due.is("share(0, -1)", x.share(0, -1), -1);
    Due.is("share(5, 0)", x.share(5, 0), -1);
    Due.is("share(-1, 0)", x.share(-1, 0), -1);
    Due.is("share(0, 0)", x.share(0, 0), 200);
    Due.is("share(4, 0)", x.share(4, 0), 100);
    Due.is("share(0, 7)", x.share(0, 7), 0);
  }

  private static void push() {
    MastWind x = Due.mast("p0 19 5 10 9;p0 20 5 10 9;p0 39 5 10 9;p0 40 5 10 9;p0 59 5 10 9;p0 60 5 10 9;",
        "p0 79 5 10 9;p0 80 5 10 9;p0 99 5 33 9;");
    x.wind(33, 1);
    int[] hundredths = {50, 100, 150, 200, 10};
    for (int i = 0; i < 5; i++) {
      x.share(i, hundredths[i]);
    }
    // v is 16, 33, 49, 66, 3; PUSH is v times v times 10 by 100, and with an AREA of 33 9 times 33 by 100.
    long[] due = {25, 108, 108, 240, 240, 435, 435, 0, 2};
    for (int i = 0; i < due.length; i++) {
      Due.is("push(" + i + ")", x.push(i), due[i]);
    }
    x.wind(33, -1);
    Due.is("push(8)", x.push(8), -2);
    Due.throwsIt("push(9)", () -> x.push(9), 1);
    Due.throwsIt("push(-1)", () -> x.push(-1), 1);
    Due.throwsIt("push(-2147483648)", () -> x.push(Integer.MIN_VALUE), 1);
  }

  private static void rest() {
    MastWind x = Due.mast("p0 20 10 30 9;p1 50 20 40 5;r0 e 30 9 100;r1 w 40 20 150;f40;");
    // At -44: -8 and -88 of PIECES; 104 by 12 less 131 by 22 of ROPES; 1760 of the FOOT.
    Due.is("rest(-44)", x.rest(-44), 30);
    Due.is("rest(-43)", x.rest(-43), -30);
    Due.is("rest(0)", x.rest(0), -2100);
    // At 300: 60 and 600; 100 - 32 is 68 by 12; 150 + 132 is 282 by 22; 12000.
    Due.is("rest(300)", x.rest(300), 660 + 816 - 6204 - 12000);
    // At -300: 100 + 32 is 132 by 12; 150 - 132 is 18 by 22.
    Due.is("rest(-300)", x.rest(-300), -660 + 1584 - 396 + 12000);
    x.becomes(0, 1);
    Due.is("rest(0), CUT", x.rest(0), -3300);
    x.becomes(1, 2);
    Due.is("rest(0), OFF", x.rest(0), 0);
    x.wind(50, -1);
    Due.is("rest(0) in the WIND", x.rest(0), -40000);
    Due.throwsIt("rest(301)", () -> x.rest(301), 1);
    Due.throwsIt("rest(-301)", () -> x.rest(-301), 1);
    Due.throwsIt("rest(2147483647)", () -> x.rest(Integer.MAX_VALUE), 1);
    // Each PIECE's share of the WEIGHT is cut for itself: 9 by 1000 twice is 0.
    MastWind y = Due.mast("p0 1 9 0 1;p0 3 3 0 1;");
    Due.is("rest(111)", y.rest(111), 0);
    Due.is("rest(112)", y.rest(112), 2);
    Due.is("rest(-112)", y.rest(-112), -2);
  }

  private static void stand() {
    MastWind x = Due.mast("p0 10 5 10 9;f100;");
    Due.is("stand() without wind", x.stand(), 0);
    // PUSH is 40, and REST 400 + 50 l by 1000 - 100 l: 0 at 4.
    x.wind(20, 1);
    Due.is("stand() to the east", x.stand(), 4);
    x.wind(20, -1);
    Due.is("stand() to the west", x.stand(), -4);
    x.wind(21, -1);
    Due.is("a little more", x.stand(), -5);
    MastWind y = Due.mast("p0 10 5 10 9;");
    Due.is("nothing holds it", y.stand(), FALLS);
    Due.is("stands(-1)", y.stands(-1), 0);
  }

  private static int edge(String areas, int side) {
    MastWind x = Due.mast(areas + "f1;");
    x.wind(10, side);
    return x.stand();
  }

  private static void standAtTheEdges() {
    // WEIGHT is nothing at these HEIGHTS: REST is the PUSHES' 299, 300, 301 less l.
    String at299 = "p0 1 1 99 1;p0 2 1 97 1;p0 3 1 2 1;";
    String at300 = "p0 1 1 98 1;p0 2 1 98 1;p0 3 1 2 1;";
    String at301 = "p0 1 1 99 1;p0 2 1 98 1;p0 3 1 2 1;";
    Due.is("299 to the east", edge(at299, 1), 299);
    Due.is("300 to the east", edge(at300, 1), FALLS);
    Due.is("300 to the west", edge(at300, -1), -300);
    Due.is("301 to the west", edge(at301, -1), FALLS);
  }

  private static void standIsNotSoughtOnTheOtherSide() {
    // WEIGHT bears it to the east from 1 on, but from 0 on it goes to the west.
    MastWind x = Due.mast("p3 90 99 0 1;p3 91 99 0 1;p3 92 99 0 1;p3 93 99 0 1;p3 94 99 0 1;p3 95 99 0 1;",
        "p3 96 99 0 1;p3 97 99 0 1;p3 98 99 0 1;p3 99 99 2 1;");
    x.wind(10, -1);
    Due.is("rest(0)", x.rest(0), -99);
    Due.is("rest(1)", x.rest(1), -99 + 4 * 18 + 5 * 19 + 20);
    Due.is("stand()", x.stand(), FALLS);
    Due.is("stands(-1)", x.stands(-1), 0);
  }

  private static void stands() {
    // REST is 2 l - 25 (l by 10, cut) for l above 0, and 2 l below.
    MastWind x = Due.mast("p0 50 40 1 9;r0 w 50 4 0;");
    Due.is("stand()", x.stand(), 9);
    Due.is("stands(-1)", x.stands(-1), 4);
    int[] due = {9, 19, 29, 39, -1000000004, -1000000004};
    for (int i = 0; i < due.length; i++) {
      Due.is("stands(" + i + ")", x.stands(i), due[i]);
    }
    Due.is("stands(2147483647)", x.stands(Integer.MAX_VALUE), -1000000004);
    Due.is("stands(-2)", x.stands(-2), -1000000001);
    Due.is("stands(-2147483648)", x.stands(Integer.MIN_VALUE), -1000000001);
    MastWind y = Due.mast("p0 1 1 98 1;p0 2 1 98 1;p0 3 1 2 1;f1;");
    y.wind(10, -1);
    Due.is("stands(0) at the edge", y.stands(0), -300);
    MastWind z = Due.mast("p0 1 1 99 1;p0 2 1 97 1;p0 3 1 2 1;f1;");
    z.wind(10, 1);
    Due.is("stands(0) at the other edge", z.stands(0), 299);
  }

  private static void standsToTheWest() {
    // With k = -l: REST is 25 (k by 10, cut) - 2 k - 50.
    MastWind x = Due.mast("p0 50 40 1 9;r0 e 50 4 0;");
    x.wind(10, -1);
    Due.is("rest(0)", x.rest(0), -50);
    Due.is("stand()", x.stand(), -100);
    Due.is("stands(-1)", x.stands(-1), 5);
    for (int i = 0; i < 5; i++) {
      Due.is("stands(" + i + ")", x.stands(i), -140 + 10 * i);
    }
    Due.is("stands(5)", x.stands(5), -1000000004);
  }

  private static void pull() {
    MastWind x = Due.mast("p0 50 40 1 9;r0 w 50 4 0;r0 e 50 4 0;r0 w 50 99 7;");
    x.becomes(2, 1);
    // At 9: 4 times 9 times 25 by 1000 is 0.
    Due.is("stand()", x.stand(), 9);
    Due.is("pull(0)", x.pull(0), 0);
    x.tight(0, 3);
    x.tight(1, 3);
    Due.is("stand() with both tight", x.stand(), 9);
    x.wind(10, 1);
    // REST is 50 + 2 l - 50 (l by 10, cut): 68 at 9, 20 at 10, 38 at 19, -10 at 20.
    Due.is("stand() in the WIND", x.stand(), 19);
    Due.is("pull(0)", x.pull(0), 4);
    Due.is("pull(1)", x.pull(1), 2);
    Due.is("pull(2), CUT", x.pull(2), 0);
    Due.is("pull(3)", x.pull(3), -1);
    Due.is("pull(-1)", x.pull(-1), -1);
    x.wind(99, 1);
    Due.is("it FALLS", x.stand(), FALLS);
    Due.is("pull(0), it FALLS", x.pull(0), -3);
    Due.is("pull(3), it FALLS", x.pull(3), -1);
  }

  private static void loose() {
    MastWind x = Due.mast("p0 50 40 1 9;r0 w 50 4 0;r0 e 50 4 0;r0 w 50 4 0;r0 e 50 4 1;");
    x.becomes(2, 2);
    // REST is 2 l - 25 (l by 10, cut), and 25 more below 10, where the last one still pulls.
    Due.is("stand()", x.stand(), 9);
    Due.is("loose()", x.loose(), 1 + 2);
    x.wind(10, 1);
    // 50 more: 50 - 5 j at l = 10 j, the first below 0 at 110.
    Due.is("stand() in the WIND", x.stand(), 109);
    Due.is("loose() in the WIND", x.loose(), 2 + 8);
    Due.is("pull(0)", x.pull(0), 10);
    x.becomes(1, 1);
    Due.is("loose(), one CUT", x.loose(), 8);
    x.becomes(3, 1);
    Due.is("loose(), two CUT", x.loose(), 0);
    x.wind(0, 1);
    Due.is("stand() without them", x.stand(), 9);
    Due.is("loose() then", x.loose(), 1);
    x.wind(99, -1);
    Due.is("loose(), it FALLS", x.loose(), -3);
  }
}
