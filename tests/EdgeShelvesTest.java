/** The edges of promises 40 to 46, a method a sentence. */
public final class EdgeShelvesTest {

  public static void main(String[] args) {
    p40Shelves();
    p40NothingWhateverTheOthers();
    p40PieceAsThen();
    p40Refusals();
    p41Sizes();
    p41ZeroAtFirst();
    p41Refusals();
    p42LowestBits();
    p42Places();
    p42Refusals();
    p43Places();
    p43Refusals();
    p44HowMany();
    p44None();
    p44WithinOneRow();
    p44Refusals();
    p44RefusalsInOrder();
    p45ByKinds();
    p45AsThen();
    p45Refusals();
    p46ByKinds();
    p46NoFailure();
    p46Refusals();
    Due.finish();
  }

  private static MastWind mast() {
    return Due.mast("p0 10 5 7 9;p1 20 6 9 8;p2 30 7 11 6;p3 40 8 13 5;");
  }

  // ---- promise 40

  private static void p40Shelves() {
    MastWind x = mast();
    for (int d = 0; d < 8; d++) {
      Edge.is(40, "SHELF " + d + " holds nothing at first", x.heft(d), -11);
    }
    for (int d = 0; d < 8; d++) {
      Edge.is(40, "keep(" + d + ", 1, 0)", x.keep(d, 1, d % 2), 0);
    }
    for (int d = 0; d < 8; d++) {
      Edge.is(40, "SHELF " + d + " holds its own", x.heft(d), d % 2 == 0 ? 15 : 12 + 20 + 9);
    }
    Edge.is(40, "PIECE 3, the last one", x.keep(0, 1, 3), 0);
    Edge.is(40, "in the place of another", x.toss(0), -15);
  }

  private static void p40NothingWhateverTheOthers() {
    int[] others = {Integer.MIN_VALUE, -1, 0, 1, 4, 10, Integer.MAX_VALUE};
    for (int k : others) {
      MastWind x = mast();
      x.keep(3, 1, 1);
      Edge.is(40, "nothing in the place of a PIECE, k " + k, x.keep(3, 0, k), 0);
      Edge.is(40, "nothing is held", x.heft(3), -11);
      Edge.is(40, "nothing in the place of nothing, k " + k, x.keep(3, 0, k), 0);
      x.row(3, 0, 5);
      Edge.is(40, "nothing in the place of a ROW, k " + k, x.keep(3, 0, k), 0);
      Edge.is(40, "nothing is held", x.put(3, 0, 1), -11);
    }
    Edge.is(40, "nothing, without PIECES", new MastWind().keep(7, 0, 5), 0);
    MastWind y = mast();
    y.row(2, 0, 1);
    Edge.is(40, "a PIECE in the place of a ROW", y.keep(2, 1, 0), 0);
    Edge.is(40, "a PIECE is held", y.heft(2), 15);
    Edge.is(40, "the ROW isn't any more", y.put(2, 0, 1), -12);
  }

  private static void p40PieceAsThen() {
    MastWind x = mast();
    x.ice(2, 20);
    x.keep(0, 1, 2);
    x.ice(2, 3);
    Edge.is(40, "as then, with ICE of 20", x.toss(0), 122);
    x.keep(1, 1, 2);
    Edge.is(40, "as now, with ICE of 3", x.toss(1), 105);
    x.image();
    x.restore();
    Edge.is(40, "as then, RESTORED or not", x.toss(0), 122);
  }

  private static void p40Refusals() {
    Edge.refusesEach(40, "keep(d, 1, 0)", Edge::full, (x, d) -> x.keep(d, 1, 0), -1, -1, 8);
    Edge.refusesEach(40, "keep(d, 0, 0)", Edge::full, (x, d) -> x.keep(d, 0, 0), -1, -1, 8);
    Edge.refusesEach(40, "keep(3, what, 0)", Edge::full, (x, w) -> x.keep(3, w, 0), -1, -1, 2);
    Edge.refusesEach(40, "keep(2, what, 0)", Edge::full, (x, w) -> x.keep(2, w, 0), -1, -1, 2);
    Edge.refusesEach(40, "keep(3, 1, k)", Edge::full, (x, k) -> x.keep(3, 1, k), -1, -1, 2, 3, 9, 10);
    Edge.refusesEach(40, "keep(2, 1, k)", Edge::full, (x, k) -> x.keep(2, 1, k), -1, -1, 2, 3, 9, 10);
    Edge.is(40, "PIECE 0 of none", new MastWind().keep(0, 1, 0), -1);
  }

  // ---- promise 41

  private static void p41Sizes() {
    int[] sizes = {0, 1, 119, 120};
    for (int sort = 0; sort <= 2; sort++) {
      for (int size : sizes) {
        MastWind x = new MastWind();
        Edge.is(41, "row(7, " + sort + ", " + size + ")", x.row(7, sort, size), 0);
        Edge.is(41, "no place at its size", x.put(7, size, 1), -13);
        Edge.is(41, "a place below its size", x.put(7, size - 1, 1), size == 0 ? -13 : 0);
      }
    }
  }

  private static void p41ZeroAtFirst() {
    MastWind x = mast();
    for (int sort = 0; sort <= 2; sort++) {
      x.row(0, sort, 120);
      for (int i = 0; i < 120; i += 7) {
        Edge.is(41, "0 at first", x.element(0, i), 0);
        x.put(0, i, 5);
      }
      x.put(0, 119, 5);
    }
    x.row(0, 2, 120);
    for (int i = 0; i < 120; i += 7) {
      Edge.is(41, "0 again in a new ROW", x.element(0, i), 0);
    }
    Edge.is(41, "0 again at the end of a new ROW", x.element(0, 119), 0);
    x.put(0, 1, 9);
    x.row(0, 0, 1);
    x.row(0, 0, 2);
    Edge.is(41, "0 behind a shorter ROW", x.element(0, 1), 0);
    x.keep(1, 1, 0);
    Edge.is(41, "in the place of a PIECE", x.row(1, 1, 1), 0);
    Edge.is(41, "the PIECE isn't any more", x.heft(1), -12);
    Edge.is(41, "0 in the place of a PIECE", x.element(1, 0), 0);
  }

  private static void p41Refusals() {
    Edge.refusesEach(41, "row(d, 0, 1)", Edge::full, (x, d) -> x.row(d, 0, 1), -1, -1, 8);
    Edge.refusesEach(41, "row(2, sort, 1)", Edge::full, (x, s) -> x.row(2, s, 1), -1, -1, 3);
    int[] above = {121, 122, 65536, Integer.MAX_VALUE - 1, Integer.MAX_VALUE};
    for (int n : above) {
      Edge.refuses(41, "row(2, 2, " + n + ")", Edge::full, x -> x.row(2, 2, n), -1);
    }
    int[] below = {-1, -2, -121, Integer.MIN_VALUE, Integer.MIN_VALUE + 1};
    for (int n : below) {
      Edge.refuses(41, "row(2, 2, " + n + ")", Edge::full, x -> x.row(2, 2, n), -14);
      Edge.refuses(41, "row(6, 0, " + n + ")", Edge::full, x -> x.row(6, 0, n), -14);
      Edge.refuses(41, "row(8, 0, " + n + "): no SHELF, too", Edge::full, x -> x.row(8, 0, n), -1);
      Edge.refuses(41, "row(-1, 0, " + n + "): no SHELF, too", Edge::full, x -> x.row(-1, 0, n), -1);
      Edge.refuses(41, "row(2, 3, " + n + "): no SORT, too", Edge::full, x -> x.row(2, 3, n), -1);
      Edge.refuses(41, "row(2, -1, " + n + "): no SORT, too", Edge::full, x -> x.row(2, -1, n), -1);
    }
  }

  // ---- promise 42

  private static void p42LowestBits() {
    int[] put = {0, 1, -1, 127, 128, 129, 255, 256, -127, -128, -129, -256, 32767, 32768, 32769, 65535, 65536, -32767, -32768,
      -32769, -65536, 70000, Integer.MAX_VALUE, Integer.MIN_VALUE, Integer.MIN_VALUE + 1};
    int[] bytes = {0, 1, -1, 127, -128, -127, -1, 0, -127, -128, 127, 0, -1, 0, 1, -1, 0, 1, 0, -1, 0, 112, -1, 0, 1};
    int[] shorts = {0, 1, -1, 127, 128, 129, 255, 256, -127, -128, -129, -256, 32767, -32768, -32767, -1, 0, -32767, -32768,
      32767, 0, 4464, -1, 0, 1};
    int[][] due = {bytes, shorts, put};
    MastWind x = new MastWind();
    for (int sort = 0; sort <= 2; sort++) {
      x.row(sort, sort, 3);
      for (int k = 0; k < put.length; k++) {
        Edge.is(42, "put(" + sort + ", 1, " + put[k] + ")", x.put(sort, 1, put[k]), 0);
        Edge.is(42, "the lowest bits of " + put[k] + ", SORT " + sort, x.element(sort, 1), due[sort][k]);
      }
      Edge.is(42, "the one ahead is as it was", x.element(sort, 0), 0);
      Edge.is(42, "the one behind is as it was", x.element(sort, 2), 0);
    }
  }

  private static void p42Places() {
    MastWind x = new MastWind();
    x.row(0, 2, 120);
    for (int i = 0; i < 120; i++) {
      Edge.is(42, "put(0, " + i + ")", x.put(0, i, i * i), 0);
    }
    for (int i = 0; i < 120; i++) {
      Edge.is(42, "element(0, " + i + ")", x.element(0, i), i * i);
    }
    Edge.is(42, "put(0, 120)", x.put(0, 120, 1), -13);
  }

  private static void p42Refusals() {
    Edge.refusesEach(42, "put(d, 0, 5)", Edge::full, (x, d) -> x.put(d, 0, 5), -1, -1, 8);
    Edge.refusesEach(42, "put(2, i, 5)", Edge::full, (x, i) -> x.put(2, i, 5), -13, -1, 3, 119, 120);
    Edge.refusesEach(42, "put(5, i, 5) of an empty ROW", Edge::full, (x, i) -> x.put(5, i, 5), -13, -1, 0, 1);
    Edge.refusesEach(42, "put(6, i, 5) of nothing", Edge::full, (x, i) -> x.put(6, i, 5), -11, -1, 0, 120);
    Edge.refusesEach(42, "put(3, i, 5) of a PIECE", Edge::full, (x, i) -> x.put(3, i, 5), -12, -1, 0, 120);
    Edge.refusesEach(42, "put(8, i, 5)", Edge::full, (x, i) -> x.put(8, i, 5), -1, -1, 0, 120);
  }

  // ---- promise 43

  private static void p43Places() {
    MastWind x = Edge.full();
    int[] shorts = {5, -6, 7};
    int[] ints = {0, 500, -20};
    for (int i = 0; i < 3; i++) {
      Edge.is(43, "element(1, " + i + ")", x.element(1, i), shorts[i]);
      Edge.is(43, "element(2, " + i + ")", x.element(2, i), ints[i]);
    }
    Due.lay(x, 7, 2, Integer.MIN_VALUE, Integer.MAX_VALUE);
    Edge.is(43, "the least int", x.element(7, 0), Integer.MIN_VALUE);
    Edge.is(43, "the greatest int", x.element(7, 1), Integer.MAX_VALUE);
    Edge.changesNothing(43, "element(2, 1)", Edge::full, y -> y.element(2, 1));
  }

  private static void p43Refusals() {
    Edge.throwsEach(43, "element(d, 0)", Edge::full, (x, d) -> x.element(d, 0), 1, -1, 8);
    Edge.throwsEach(43, "element(d, -1): no such place, too", Edge::full, (x, d) -> x.element(d, -1), 1, -1, 8);
    Edge.throwsEach(43, "element(2, i)", Edge::full, (x, i) -> x.element(2, i), 2, -1, 3, 119, 120);
    Edge.throwsEach(43, "element(5, i) of an empty ROW", Edge::full, (x, i) -> x.element(5, i), 2, -1, 0, 1);
    Edge.throwsEach(43, "element(6, i) of nothing", Edge::full, (x, i) -> x.element(6, i), 2, -1, 0, 1);
    Edge.throwsEach(43, "element(3, i) of a PIECE", Edge::full, (x, i) -> x.element(3, i), 2, -1, 0, 1);
    MastWind x = mast();
    Due.lay(x, 0, 2, 5, 6);
    x.keep(0, 1, 0);
    Edge.is(43, "a PIECE in the place of a ROW throws", Due.thrown(() -> x.element(0, 0)), 2);
    x.keep(0, 0, 0);
    Edge.is(43, "nothing in the place of a ROW throws", Due.thrown(() -> x.element(0, 0)), 2);
  }

  // ---- promise 44

  private static void rowIs(MastWind x, int d, int... due) {
    for (int i = 0; i < due.length; i++) {
      Edge.is(44, "element(" + d + ", " + i + ")", x.element(d, i), due[i]);
    }
    Edge.is(44, "the size of the ROW in " + d, x.put(d, due.length, 0), -13);
  }

  private static MastWind rows() {
    MastWind x = Edge.full();
    Due.lay(x, 6, 2, 11, 12, 13, 14, 15);
    Due.lay(x, 7, 2, 21, 22, 23);
    return x;
  }

  private static void p44HowMany() {
    MastWind x = rows();
    Edge.is(44, "two in the middle", x.copy(6, 1, 7, 1, 2), 2);
    rowIs(x, 6, 11, 12, 13, 14, 15);
    rowIs(x, 7, 21, 12, 13);
    Edge.is(44, "the last one to the first place", x.copy(6, 4, 7, 0, 1), 1);
    rowIs(x, 7, 15, 12, 13);
    Edge.is(44, "all of the shorter one", x.copy(7, 0, 6, 2, 3), 3);
    rowIs(x, 6, 11, 12, 15, 12, 13);
    Edge.is(44, "the first one to the last place", x.copy(6, 0, 7, 2, 1), 1);
    rowIs(x, 7, 15, 12, 11);
    for (int sort = 0; sort <= 2; sort++) {
      MastWind y = new MastWind();
      Due.lay(y, 0, sort, 1, -2, 3);
      y.row(1, sort, 120);
      Edge.is(44, "to the end of a full one, SORT " + sort, y.copy(0, 0, 1, 117, 3), 3);
      Edge.is(44, "the last element", y.element(1, 119), 3);
      Edge.is(44, "one below 0", y.element(1, 118), -2);
      Edge.is(44, "the one ahead", y.element(1, 116), 0);
      y.row(2, sort, 120);
      Edge.is(44, "all 120, SORT " + sort, y.copy(1, 0, 2, 0, 120), 120);
      Edge.is(44, "the last element", y.element(2, 119), 3);
    }
  }

  private static void p44None() {
    Edge.refuses(44, "none, at the beginning", EdgeShelvesTest::rows, x -> x.copy(6, 0, 7, 0, 0), 0);
    Edge.refuses(44, "none, just behind the last ones", EdgeShelvesTest::rows, x -> x.copy(6, 5, 7, 3, 0), 0);
    MastWind x = new MastWind();
    x.row(0, 0, 0);
    x.row(1, 0, 0);
    Edge.is(44, "none of an empty one to an empty one", x.copy(0, 0, 1, 0, 0), 0);
    Edge.is(44, "one of an empty one", x.copy(0, 0, 1, 0, 1), -13);
    Edge.is(44, "none of an empty one to itself", x.copy(0, 0, 0, 0, 0), 0);
  }

  private static void p44WithinOneRow() {
    MastWind x = rows();
    Edge.is(44, "up by one", x.copy(6, 0, 6, 1, 4), 4);
    rowIs(x, 6, 11, 11, 12, 13, 14);
    Edge.is(44, "down by one", x.copy(6, 1, 6, 0, 4), 4);
    rowIs(x, 6, 11, 12, 13, 14, 14);
    Edge.is(44, "to where it is", x.copy(6, 0, 6, 0, 5), 5);
    rowIs(x, 6, 11, 12, 13, 14, 14);
    Edge.is(44, "side by side", x.copy(6, 0, 6, 3, 2), 2);
    rowIs(x, 6, 11, 12, 13, 11, 12);
    Edge.is(44, "one beyond itself", x.copy(6, 0, 6, 1, 5), -13);
    rowIs(x, 6, 11, 12, 13, 11, 12);
  }

  private static void p44Refusals() {
    Edge.Make make = EdgeShelvesTest::rows;
    Edge.refusesEach(44, "copy(d, 0, 7, 0, 1)", make, (x, d) -> x.copy(d, 0, 7, 0, 1), -1, -1, 8);
    Edge.refusesEach(44, "copy(6, 0, e, 0, 1)", make, (x, e) -> x.copy(6, 0, e, 0, 1), -1, -1, 8);
    Edge.refusesEach(44, "copy(6, i, 7, 0, 1)", make, (x, i) -> x.copy(6, i, 7, 0, 1), -13, -1, 5, 6, 120);
    Edge.refusesEach(44, "copy(6, i, 7, 0, 2)", make, (x, i) -> x.copy(6, i, 7, 0, 2), -13, -1, 4, 5);
    Edge.refusesEach(44, "copy(6, i, 7, 0, 0)", make, (x, i) -> x.copy(6, i, 7, 0, 0), -13, -1, 6);
    Edge.refusesEach(44, "copy(6, 0, 7, j, 1)", make, (x, j) -> x.copy(6, 0, 7, j, 1), -13, -1, 3, 4, 120);
    Edge.refusesEach(44, "copy(6, 0, 7, j, 2)", make, (x, j) -> x.copy(6, 0, 7, j, 2), -13, -1, 2, 3);
    Edge.refusesEach(44, "copy(6, 0, 7, j, 0)", make, (x, j) -> x.copy(6, 0, 7, j, 0), -13, -1, 4);
    Edge.refusesEach(44, "copy(6, 0, 7, 0, n)", make, (x, n) -> x.copy(6, 0, 7, 0, n), -13, -1, 4, 5, 6);
    Edge.refusesEach(44, "copy(7, 0, 6, 0, n)", make, (x, n) -> x.copy(7, 0, 6, 0, n), -13, -1, 4, 5, 6);
    Edge.refusesEach(44, "copy(6, 1, 7, 1, n)", make, (x, n) -> x.copy(6, 1, 7, 1, n), -13, -1, -2, 3);
    Edge.refuses(44, "a place and a size whose sum wraps around", make, x -> x.copy(6, Integer.MAX_VALUE, 7, 0, 1), -13);
    Edge.refuses(44, "the same, there", make, x -> x.copy(6, 0, 7, Integer.MAX_VALUE, 1), -13);
    Edge.refuses(44, "a size that wraps around", make, x -> x.copy(6, 1, 7, 1, Integer.MAX_VALUE), -13);
    Edge.refuses(44, "both", make, x -> x.copy(6, Integer.MAX_VALUE, 7, Integer.MAX_VALUE, Integer.MAX_VALUE), -13);
  }

  /** As full, and on SHELF 3 PIECE 1 is in the place of a ROW of a SORT, which SHELF 0, 1 or 2 has too. */
  private static MastWind keptOver(int sort) {
    MastWind x = Edge.full();
    Due.lay(x, 3, sort, 1, 2, 3);
    x.keep(3, 1, 1);
    return x;
  }

  private static void p44RefusalsInOrder() {
    Edge.Make make = Edge::full;
    Edge.refuses(44, "nothing", make, x -> x.copy(6, 0, 2, 0, 1), -11);
    Edge.refuses(44, "nothing there", make, x -> x.copy(2, 0, 6, 0, 1), -11);
    Edge.refuses(44, "nothing either way", make, x -> x.copy(6, 0, 7, 0, 1), -11);
    Edge.refuses(44, "a PIECE", make, x -> x.copy(3, 0, 2, 0, 1), -12);
    Edge.refuses(44, "a PIECE there", make, x -> x.copy(2, 0, 3, 0, 1), -12);
    Edge.refuses(44, "a PIECE either way", make, x -> x.copy(3, 0, 3, 0, 1), -12);
    Edge.refuses(44, "a PIECE to bytes", make, x -> x.copy(3, 0, 0, 0, 1), -12);
    Edge.refuses(44, "bytes to a PIECE", make, x -> x.copy(0, 0, 3, 0, 1), -12);
    for (int sort = 0; sort <= 2; sort++) {
      int s = sort;
      Edge.Make kept = () -> keptOver(s);
      Edge.refuses(44, "a PIECE in the place of a ROW, SORT " + s, kept, x -> x.copy(3, 0, s, 0, 1), -12);
      Edge.refuses(44, "to a PIECE in the place of a ROW, SORT " + s, kept, x -> x.copy(s, 0, 3, 0, 1), -12);
    }
    Edge.refuses(44, "bytes to shorts", make, x -> x.copy(0, 0, 1, 0, 1), -12);
    Edge.refuses(44, "shorts to ints", make, x -> x.copy(1, 0, 2, 0, 1), -12);
    Edge.refuses(44, "ints to bytes", make, x -> x.copy(2, 0, 0, 0, 1), -12);
    Edge.refuses(44, "none of bytes to shorts", make, x -> x.copy(0, 0, 1, 0, 0), -12);
    Edge.refuses(44, "no SHELF, and nothing there", make, x -> x.copy(8, 0, 6, 0, 1), -1);
    Edge.refuses(44, "nothing, and no SHELF there", make, x -> x.copy(6, 0, 8, 0, 1), -1);
    Edge.refuses(44, "a PIECE, and no SHELF there", make, x -> x.copy(3, 0, -1, 0, 1), -1);
    Edge.refuses(44, "no place, and no SHELF there", make, x -> x.copy(2, 9, 8, 0, 1), -1);
    Edge.refuses(44, "a PIECE, and nothing there", make, x -> x.copy(3, 0, 6, 0, 1), -11);
    Edge.refuses(44, "nothing, and a PIECE there", make, x -> x.copy(6, 0, 3, 0, 1), -11);
    Edge.refuses(44, "no place, and nothing there", make, x -> x.copy(2, 9, 6, 0, 1), -11);
    Edge.refuses(44, "no place, and a PIECE there", make, x -> x.copy(2, 9, 3, 0, 1), -12);
    Edge.refuses(44, "no place, and another SORT there", make, x -> x.copy(2, 9, 1, 9, 9), -12);
    Edge.refuses(44, "a size below 0, and another SORT there", make, x -> x.copy(2, 0, 1, 0, -1), -12);
    Edge.refuses(44, "a size below 0, and nothing there", make, x -> x.copy(2, 0, 6, 0, -1), -11);
    Edge.refuses(44, "a size below 0", make, x -> x.copy(2, 0, 2, 0, -1), -13);
  }

  // ---- promise 45

  private static int heft(String piece, int ice) {
    MastWind x = Due.mast(piece);
    x.ice(0, ice);
    x.keep(7, 1, 0);
    return x.heft(7);
  }

  private static void p45ByKinds() {
    Edge.is(45, "PIECE", heft("p0 10 5 7 9;", 0), 5 + 10);
    Edge.is(45, "PIECE with ICE", heft("p0 10 5 7 9;", 20), 25 + 10);
    Edge.is(45, "ROD", heft("p1 10 5 7 9;", 0), 10 + 10 + 7);
    Edge.is(45, "ROD with ICE", heft("p1 10 5 7 9;", 20), 30 + 10 + 7);
    Edge.is(45, "ICED", heft("p2 10 5 7 9;", 0), 2 * (10 + 10 + 7));
    Edge.is(45, "ICED with ICE", heft("p2 10 5 7 9;", 20), 2 * (70 + 10 + 7));
    Edge.is(45, "DAMPED", heft("p3 10 5 7 9;", 0), 15 + 10 + 7 + 9);
    Edge.is(45, "DAMPED with ICE", heft("p3 10 5 7 9;", 20), 35 + 10 + 7 + 9);
    Edge.is(45, "the least", heft("p0 1 1 0 1;", 0), 2);
    Edge.is(45, "the greatest", heft("p2 99 99 99 99;", 20), 2 * (258 + 99 + 99));
    Edge.is(45, "the greatest DAMPED", heft("p3 99 99 99 99;", 20), 223 + 99 + 99 + 99);
  }

  private static void p45AsThen() {
    MastWind x = mast();
    x.ice(2, 4);
    x.keep(0, 1, 2);
    x.ice(2, 0);
    Edge.is(45, "as then", x.heft(0), 2 * (14 + 4 + 8 + 30 + 11));
    Edge.is(45, "it stays there", x.heft(0), 134);
  }

  private static void p45Refusals() {
    Edge.refusesEach(45, "heft(d)", Edge::full, (x, d) -> x.heft(d), -1, -1, 8);
    Edge.refuses(45, "heft(6), nothing", Edge::full, x -> x.heft(6), -11);
    for (int d = 0; d <= 5; d++) {
      int row = d;
      if (d != 3) {
        Edge.refuses(45, "heft(" + d + "), a ROW", Edge::full, x -> x.heft(row), -12);
      }
    }
    Edge.changesNothing(45, "heft(3)", Edge::full, x -> x.heft(3));
  }

  // ---- promise 46

  private static int toss(int kind, int number, int ice) {
    StringBuilder text = new StringBuilder();
    for (int i = 0; i < number; i++) {
      text.append("p0 ").append(i + 1).append(" 1 0 1;");
    }
    MastWind x = Due.mast(text.length() == 0 ? "f0;" : text.toString(), "p" + kind + " 99 1 0 1;");
    x.ice(number, ice);
    x.keep(7, 1, number);
    return x.toss(7);
  }

  private static void p46ByKinds() {
    for (int number = 0; number <= 9; number++) {
      Edge.is(46, "PIECE " + number, toss(0, number, 0), number);
      Edge.is(46, "ROD " + number, toss(1, number, 0), number);
      Edge.is(46, "ICED " + number, toss(2, number, 1), number + 101);
      Edge.is(46, "DAMPED " + number, toss(3, number, 0), -15);
    }
    Edge.is(46, "PIECE with ICE", toss(0, 4, 20), 4);
    Edge.is(46, "ROD with ICE", toss(1, 4, 20), 4);
    Edge.is(46, "ICED with ICE of 20", toss(2, 4, 20), 124);
  }

  private static void p46NoFailure() {
    Edge.is(46, "DAMPED with ICE", toss(3, 0, 20), -15);
    Edge.is(46, "DAMPED without ICE", toss(3, 0, 0), -15);
    Edge.is(46, "ICED without ICE", toss(2, 0, 0), -15);
    Edge.is(46, "ICED with ICE of 1", toss(2, 0, 1), 101);
    MastWind x = mast();
    x.keep(0, 1, 2);
    x.ice(2, 5);
    Edge.is(46, "ICED without ICE as then, with ICE now", x.toss(0), -15);
    x.keep(0, 1, 2);
    x.ice(2, 0);
    Edge.is(46, "ICED with ICE as then, without now", x.toss(0), 107);
    Edge.is(46, "thrown once more", x.toss(0), 107);
    Edge.refuses(46, "toss of a DAMPED one", EdgeShelvesTest::damped, y -> y.toss(0), -15);
  }

  private static MastWind damped() {
    MastWind x = mast();
    x.keep(0, 1, 3);
    return x;
  }

  private static void p46Refusals() {
    Edge.refusesEach(46, "toss(d)", Edge::full, (x, d) -> x.toss(d), -1, -1, 8);
    Edge.refuses(46, "toss(6), nothing", Edge::full, x -> x.toss(6), -11);
    for (int d = 0; d <= 5; d++) {
      int row = d;
      if (d != 3) {
        Edge.refuses(46, "toss(" + d + "), a ROW", Edge::full, x -> x.toss(row), -12);
      }
    }
    Edge.changesNothing(46, "toss(3)", Edge::full, x -> x.toss(3));
  }
}
