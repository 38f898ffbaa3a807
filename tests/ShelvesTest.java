/** Promises 40 to 46: shelves. */
public final class ShelvesTest {

  public static void main(String[] args) {
    keep();
    keepsThePieceAsThen();
    row();
    put();
    element();
    copy();
    copyWithin();
    copyRefusals();
    heft();
    toss();
    Due.finish();
  }

  private static MastWind mast() {
    return Due.mast("p0 10 5 7 9;p1 20 6 9 8;p2 30 7 11 6;p3 40 8 13 5;");
  }

  private static void keep() {
    MastWind x = mast();
    Due.is("keep(0, 1, 3)", x.keep(0, 1, 3), 0);
    Due.is("keep(7, 1, 0)", x.keep(7, 1, 0), 0);
    Due.is("keep(0, 1, 4)", x.keep(0, 1, 4), -1);
    Due.is("keep(0, 1, -1)", x.keep(0, 1, -1), -1);
    Due.is("keep(0, 2, 0)", x.keep(0, 2, 0), -1);
    Due.is("keep(0, -1, 0)", x.keep(0, -1, 0), -1);
    Due.is("keep(8, 1, 0)", x.keep(8, 1, 0), -1);
    Due.is("keep(-1, 0, 0)", x.keep(-1, 0, 0), -1);
    Due.is("what is held stays", x.heft(0), 16 + 5 + 40 + 13 + 5);
    Due.is("keep(0, 0, 99)", x.keep(0, 0, 99), 0);
    Due.is("nothing", x.heft(0), -11);
    Due.is("keep(0, 0, -99) of nothing", x.keep(0, 0, -99), 0);
    Due.lay(x, 1, 0, 5);
    Due.is("a PIECE in the place of a ROW", x.keep(1, 1, 0), 0);
    Due.is("heft(1)", x.heft(1), 15);
    Due.throwsIt("element(1, 0)", () -> x.element(1, 0), 2);
    Due.lay(x, 1, 0, 5);
    Due.is("nothing in the place of a ROW", x.keep(1, 0, 0), 0);
    Due.is("put(1, 0, 0)", x.put(1, 0, 0), -11);
  }

  private static void keepsThePieceAsThen() {
    MastWind x = mast();
    x.ice(2, 4);
    x.keep(0, 1, 2);
    x.ice(2, 0);
    x.keep(1, 1, 2);
    // 14 + 4 + 8, 30, 11; without ICE 14, 30, 11; twice.
    Due.is("heft(0)", x.heft(0), 134);
    Due.is("heft(1)", x.heft(1), 110);
    Due.is("toss(0)", x.toss(0), 106);
    Due.is("toss(1)", x.toss(1), -15);
  }

  private static void row() {
    MastWind x = mast();
    Due.is("row(0, 0, 120)", x.row(0, 0, 120), 0);
    Due.is("the last element", x.element(0, 119), 0);
    Due.is("put(0, 119, 5)", x.put(0, 119, 5), 0);
    Due.is("row(0, 0, 121)", x.row(0, 0, 121), -1);
    Due.is("row(0, 3, 1)", x.row(0, 3, 1), -1);
    Due.is("row(0, -1, 1)", x.row(0, -1, 1), -1);
    Due.is("row(8, 0, 1)", x.row(8, 0, 1), -1);
    Due.is("row(-1, 0, 1)", x.row(-1, 0, 1), -1);
    Due.is("row(8, 0, -1)", x.row(8, 0, -1), -1);
    Due.is("row(0, 3, -1)", x.row(0, 3, -1), -1);
    Due.is("row(0, 0, -1)", x.row(0, 0, -1), -14);
    Due.is("row(0, 2, -2147483648)", x.row(0, 2, Integer.MIN_VALUE), -14);
    Due.is("the ROW stays", x.element(0, 119), 5);
    Due.is("row(0, 0, 120) again", x.row(0, 0, 120), 0);
    Due.is("0 at first", x.element(0, 119), 0);
    x.put(0, 0, 5);
    x.row(0, 0, 1);
    Due.is("0 at first", x.element(0, 0), 0);
    Due.is("row(0, 2, 0)", x.row(0, 2, 0), 0);
    Due.throwsIt("element(0, 0) of an empty one", () -> x.element(0, 0), 2);
    x.keep(1, 1, 0);
    Due.is("a ROW in the place of a PIECE", x.row(1, 1, 1), 0);
    Due.is("heft(1)", x.heft(1), -12);
    Due.is("element(1, 0)", x.element(1, 0), 0);
  }

  private static void put() {
    MastWind x = mast();
    int[] values = {0, 127, 128, 255, 256, -128, -129, 32767, 32768, -32769, 65536, Integer.MAX_VALUE,
        Integer.MIN_VALUE, -1};
    for (int sort = 0; sort < 3; sort++) {
      x.row(sort, sort, 2);
      for (int v : values) {
        Due.is("put(" + sort + ", 1, " + v + ")", x.put(sort, 1, v), 0);
        Due.is("element(" + sort + ", 1) of " + v, x.element(sort, 1), sort == 0 ? (byte) v : sort == 1 ? (short) v : v);
        Due.is("element(" + sort + ", 0)", x.element(sort, 0), 0);
      }
      Due.is("put at 2", x.put(sort, 2, 5), -13);
      Due.is("put at -1", x.put(sort, -1, 5), -13);
      Due.is("put at 2147483647", x.put(sort, Integer.MAX_VALUE, 5), -13);
      Due.is("put at -2147483648", x.put(sort, Integer.MIN_VALUE, 5), -13);
    }
    Due.is("put(8, 0, 0)", x.put(8, 0, 0), -1);
    Due.is("put(-1, 0, 0)", x.put(-1, 0, 0), -1);
    Due.is("put(3, 99, 0)", x.put(3, 99, 0), -11);
    x.keep(3, 1, 0);
    Due.is("put(3, 99, 0)", x.put(3, 99, 0), -12);
  }

  private static void element() {
    MastWind x = mast();
    Due.lay(x, 0, 2, 5, -6);
    Due.is("element(0, 0)", x.element(0, 0), 5);
    Due.is("element(0, 1)", x.element(0, 1), -6);
    Due.throwsIt("element(0, 2)", () -> x.element(0, 2), 2);
    Due.throwsIt("element(0, -1)", () -> x.element(0, -1), 2);
    Due.throwsIt("element(0, 2147483647)", () -> x.element(0, Integer.MAX_VALUE), 2);
    Due.throwsIt("element(8, 0)", () -> x.element(8, 0), 1);
    Due.throwsIt("element(-1, -1)", () -> x.element(-1, -1), 1);
    Due.throwsIt("element(1, 0), nothing", () -> x.element(1, 0), 2);
    x.keep(1, 1, 0);
    Due.throwsIt("element(1, 0), a PIECE", () -> x.element(1, 0), 2);
  }

  private static void rowIs(MastWind x, int d, int... due) {
    for (int i = 0; i < due.length; i++) {
      Due.is("element(" + d + ", " + i + ")", x.element(d, i), due[i]);
    }
  }

  private static void copy() {
    MastWind x = mast();
    Due.lay(x, 0, 1, 1, 2, 3, 4, 5);
    Due.lay(x, 1, 1, 6, 7, 8);
    Due.is("copy(0, 2, 1, 0, 2)", x.copy(0, 2, 1, 0, 2), 2);
    rowIs(x, 1, 3, 4, 8);
    rowIs(x, 0, 1, 2, 3, 4, 5);
    Due.is("copy of none", x.copy(0, 5, 1, 3, 0), 0);
    Due.is("copy of all", x.copy(1, 0, 0, 2, 3), 3);
    rowIs(x, 0, 1, 2, 3, 4, 8);
    x.put(1, 0, 99);
    rowIs(x, 0, 1, 2, 3, 4, 8);
  }

  private static void copyWithin() {
    MastWind x = mast();
    Due.lay(x, 0, 1, 1, 2, 3, 4, 5);
    Due.is("copy up", x.copy(0, 0, 0, 1, 4), 4);
    rowIs(x, 0, 1, 1, 2, 3, 4);
    Due.is("copy down", x.copy(0, 2, 0, 0, 3), 3);
    rowIs(x, 0, 2, 3, 4, 3, 4);
  }

  private static void copyRefusals() {
    MastWind x = mast();
    Due.lay(x, 0, 1, 1, 2, 3);
    Due.lay(x, 1, 1, 4, 5);
    Due.is("SHELF 8", x.copy(8, 0, 1, 0, 1), -1);
    Due.is("SHELF -1", x.copy(-1, 0, 1, 0, 1), -1);
    Due.is("to SHELF 8", x.copy(0, 0, 8, 0, 1), -1);
    Due.is("to SHELF -1, nothing held", x.copy(2, 0, -1, 0, 1), -1);
    Due.is("nothing held", x.copy(2, 0, 1, 0, 1), -11);
    Due.is("nothing held there", x.copy(0, 0, 2, 9, 1), -11);
    x.keep(3, 1, 0);
    Due.is("a PIECE, and nothing", x.copy(3, 0, 2, 0, 1), -11);
    Due.is("a PIECE", x.copy(3, 0, 0, 0, 1), -12);
    Due.is("to a PIECE", x.copy(0, 0, 3, 9, 1), -12);
    Due.is("two PIECES", x.copy(3, 0, 3, 0, 1), -12);
    Due.lay(x, 5, 1, 4, 5);
    x.keep(5, 1, 0);
    Due.is("a PIECE in the place of a ROW", x.copy(5, 0, 0, 0, 1), -12);
    Due.is("to a PIECE in the place of a ROW", x.copy(0, 0, 5, 0, 1), -12);
    Due.lay(x, 4, 2, 4, 5);
    Due.is("another SORT", x.copy(0, 9, 4, 9, 1), -12);
    Due.is("a place behind", x.copy(0, 2, 1, 0, 2), -13);
    Due.is("a place behind, there", x.copy(0, 0, 1, 1, 2), -13);
    Due.is("a place ahead", x.copy(0, -1, 1, 0, 1), -13);
    Due.is("a place ahead, there", x.copy(0, 0, 1, -1, 1), -13);
    Due.is("none, behind", x.copy(0, 4, 1, 0, 0), -13);
    Due.is("none, behind, there", x.copy(0, 0, 1, 3, 0), -13);
    Due.is("fewer than none", x.copy(0, 1, 1, 1, -1), -13);
    Due.is("far too many", x.copy(0, 1, 1, 1, Integer.MAX_VALUE), -13);
    Due.is("far behind", x.copy(0, Integer.MAX_VALUE, 1, 0, 1), -13);
    Due.is("far ahead", x.copy(0, 0, 1, Integer.MIN_VALUE, 1), -13);
    rowIs(x, 0, 1, 2, 3);
    rowIs(x, 1, 4, 5);
    rowIs(x, 4, 4, 5);
  }

  private static void heft() {
    MastWind x = mast();
    for (int i = 0; i < 4; i++) {
      x.ice(i, 3);
      x.keep(i, 1, i);
    }
    Due.is("PIECE", x.heft(0), 8 + 10);
    Due.is("ROD", x.heft(1), 15 + 20 + 9);
    Due.is("ICED", x.heft(2), 2 * (23 + 30 + 11));
    Due.is("DAMPED", x.heft(3), 24 + 40 + 13 + 5);
    Due.is("heft(4)", x.heft(4), -11);
    x.row(4, 0, 1);
    Due.is("a ROW", x.heft(4), -12);
    Due.is("heft(8)", x.heft(8), -1);
    Due.is("heft(-1)", x.heft(-1), -1);
  }

  private static void toss() {
    MastWind x = Due.mast("p1 1 1 1 1;p0 2 1 1 1;p2 3 1 1 1;p1 4 1 1 1;p3 5 1 1 1;p0 6 1 1 1;");
    x.ice(2, 20);
    x.ice(4, 20);
    int[] due = {0, 1, 122, 3, -15, 5};
    for (int i = 0; i < due.length; i++) {
      x.keep(i, 1, i);
      Due.is("toss(" + i + ")", x.toss(i), due[i]);
      Due.is("toss(" + i + ") again", x.toss(i), due[i]);
    }
    x.ice(2, 0);
    Due.is("toss(2), as then", x.toss(2), 122);
    x.keep(2, 1, 2);
    Due.is("toss(2) without ICE", x.toss(2), -15);
    x.ice(2, 1);
    Due.is("toss(2), as then", x.toss(2), -15);
    x.keep(2, 1, 2);
    Due.is("toss(2) with a little ICE", x.toss(2), 103);
    Due.is("toss(6)", x.toss(6), -11);
    x.row(6, 2, 1);
    Due.is("a ROW", x.toss(6), -12);
    Due.is("toss(8)", x.toss(8), -1);
    Due.is("toss(-1)", x.toss(-1), -1);
  }
}
