/** The edges of promises 37 to 39, a method a sentence. */
public final class EdgeImageTest {

  public static void main(String[] args) {
    p37HowManyPieces();
    p37AllThatThereIs();
    p37InThePlaceOfAnother();
    p38HowManyPieces();
    p38AllIsAsItWasThen();
    p38RulesToldThen();
    p38TheImageStays();
    p38ShelvesStay();
    p38OfNothing();
    p38OfAllThereMayBe();
    p38Refusals();
    p39Counts();
    p39Ends();
    p39Refusals();
    Due.finish();
  }

  // ---- promise 37

  private static void p37HowManyPieces() {
    Edge.is(37, "of a new object", new MastWind().image(), 0);
    Edge.is(37, "of two", Edge.full().image(), 2);
    Edge.is(37, "of one", Due.mast("p0 1 1 1 1;").image(), 1);
  }

  private static void p37AllThatThereIs() {
    MastWind x = Edge.full();
    x.image();
    MastWind y = Edge.full();
    // THE IMAGE alone is another: RESTORED, x is as it is now.
    for (int what = 0; what <= 9; what++) {
      Edge.is(37, "what is told stays, " + what, x.told(what), y.told(what));
    }
    Edge.is(37, "THE STAND stays", x.stand(), y.stand());
    Edge.is(37, "SHELVES stay", x.element(2, 1), 500);
  }

  private static void p37InThePlaceOfAnother() {
    MastWind x = Due.mast("p0 1 1 1 1;");
    x.image();
    Due.text(x, "p0 2 1 1 1;");
    Edge.is(37, "another IMAGE", x.image(), 2);
    Due.text(x, "p0 3 1 1 1;");
    Edge.is(37, "the other one is RESTORED", x.restore(), 2);
    Edge.is(37, "PIECES", x.told(0), 2);
  }

  // ---- promise 38

  private static void p38HowManyPieces() {
    MastWind x = Edge.full();
    Due.text(x, "p0 90 1 1 1;");
    Edge.is(38, "restore()", x.restore(), 2);
    Edge.is(38, "PIECES", x.told(0), 2);
  }

  /** All that calls can change, away from what THE IMAGE has. */
  private static void change(MastWind x) {
    Due.text(x, "p1 90 3 4 5;f999;r2 w 1 2 3;");
    x.becomes(0, 1);
    x.becomes(1, 2);
    x.tight(0, 999);
    x.tight(1, 0);
    x.ice(0, 20);
    x.ice(1, 0);
    x.odds(0, 99);
    x.odds(1, 0);
    x.wind(99, -1);
    for (int i = 0; i < 5; i++) {
      x.share(i, 200 - i);
    }
    x.gust(7);
    x.tell(0, true);
    x.tell(1, false);
    x.offer(0, 99, 1);
    Due.lay(x, 7, "1=1");
    x.rule(7);
    x.keep(7, 0, 0);
  }

  private static MastWind imaged() {
    MastWind x = Edge.full();
    x.image();
    return x;
  }

  private static void p38AllIsAsItWasThen() {
    MastWind x = imaged();
    change(x);
    x.restore();
    Edge.is(38, "all is as it was then", Look.of(x).equals(Look.of(imaged())) ? 1 : 0, 1);
    MastWind y = imaged();
    x = imaged();
    x.restore();
    Edge.is(38, "with nothing changed nothing changes", Look.of(x).equals(Look.of(y)) ? 1 : 0, 1);
    // What was behind what there was is as new when it comes again.
    MastWind z = Due.mast("p0 10 1 1 1;");
    z.image();
    Due.text(z, "p2 20 3 4 5;r1 w 6 7 8;");
    z.ice(1, 20);
    z.odds(1, 20);
    z.becomes(0, 2);
    z.restore();
    Edge.is(38, "PIECE 1 isn't there", z.piece(1, 0), -1);
    Edge.is(38, "ROPE 0 isn't there", z.rope(0, 0), -1);
    Due.text(z, "p2 20 3 4 5;r1 w 6 7 8;");
    Edge.is(38, "ICE of the new PIECE 1", z.piece(1, 5), 0);
    Edge.is(38, "ODDS of the new PIECE 1", z.odds(1, 0), 0);
    Edge.is(38, "how the new ROPE 0 is", z.rope(0, 5), 0);
  }

  private static void p38RulesToldThen() {
    for (int bits = 0; bits < 8; bits++) {
      MastWind x = Due.mast("p0 1 1 1 1;");
      Due.lay(x, 0, "1=1");
      for (int k = 0; k < 3; k++) {
        x.rule(0);
        x.tell(k, (bits >> k & 1) == 1);
      }
      x.image();
      for (int k = 0; k < 3; k++) {
        x.tell(k, (bits >> k & 1) == 0);
      }
      x.restore();
      Edge.is(38, "RULES told then", x.told(7), Integer.bitCount(bits));
      for (int k = 0; k < 3; k++) {
        Edge.is(38, "RULE " + k + " of " + bits, x.tell(k, true), (bits >> k & 1) == 1 ? 0 : 1);
      }
    }
  }

  private static void p38TheImageStays() {
    MastWind x = imaged();
    for (int i = 0; i < 2; i++) {
      change(x);
      Edge.is(38, "RESTORED, time " + i, x.restore(), 2);
    }
    Edge.is(38, "all is as it was then, each time", Look.of(x).equals(Look.of(imaged())) ? 1 : 0, 1);
    MastWind y = imaged();
    y.restore();
    y.ice(0, 17);
    y.tight(0, 17);
    y.share(0, 17);
    y.tell(0, false);
    y.restore();
    Edge.is(38, "what is done behind it does not touch THE IMAGE", Look.of(y).equals(Look.of(imaged())) ? 1 : 0, 1);
  }

  private static void p38ShelvesStay() {
    MastWind x = imaged();
    x.ice(1, 9);
    x.keep(0, 1, 1);
    x.row(1, 2, 3);
    x.put(1, 2, 70000);
    x.put(2, 1, 7);
    x.keep(3, 0, 0);
    Due.lay(x, 6, 1, 4, 5);
    x.restore();
    // 12 and 27, 30, 20, twice; as then, with ICE of 9.
    Edge.is(38, "a PIECE that is kept stays", x.heft(0), 2 * (12 + 27 + 30 + 20));
    Edge.is(38, "a PIECE as then", x.toss(0), 110);
    Edge.is(38, "the mast's ICE is as it was", x.piece(1, 5), 7);
    Edge.is(38, "a new ROW stays", x.element(1, 2), 70000);
    Edge.is(38, "what was put in stays", x.element(2, 1), 7);
    Edge.is(38, "a SHELF with nothing stays so", x.heft(3), -11);
    Edge.is(38, "another ROW stays", x.element(6, 1), 5);
  }

  private static void p38OfNothing() {
    MastWind x = new MastWind();
    x.image();
    Due.text(x, "p0 1 1 1 1;f9;r0 e 1 1 1;");
    x.gust(5);
    x.offer(0, 1, 1);
    x.wind(50, -1);
    x.share(0, 5);
    Due.lay(x, 0, "1=1");
    x.rule(0);
    Edge.is(38, "RESTORED to nothing", x.restore(), 0);
    for (int what = 0; what <= 9; what++) {
      Edge.is(38, "told(" + what + ")", x.told(what), 0);
    }
    Edge.is(38, "SPEED", x.wind(0, 1), 0);
    Edge.is(38, "SHARE", x.share(0, 5), 100);
  }

  private static void p38OfAllThereMayBe() {
    MastWind x = Due.mast("p0 1 1 0 1;p0 2 1 0 1;p0 3 1 0 1;p0 4 1 0 1;p0 5 1 0 1;",
        "p0 6 1 0 1;p0 7 1 0 1;p0 8 1 0 1;p0 9 1 0 1;p0 10 1 0 1;",
        "r0 e 9 9 1;r1 e 9 9 2;r2 e 9 9 3;r3 e 9 9 4;r4 e 9 9 5;r5 e 9 9 6;",
        "r6 e 9 9 7;r7 e 9 9 8;r8 e 9 9 9;r9 e 9 9 10;r0 e 9 9 11;r1 e 9 9 12;f99;");
    StringBuilder text = new StringBuilder("h=1");
    while (text.length() < 119) {
      text.append("&h=1");
    }
    Due.lay(x, 0, text.toString());
    for (int i = 0; i < 12; i++) {
      x.rule(0);
    }
    for (int i = 0; i < 8; i++) {
      x.gust(i + 1);
      x.offer(i, 1, 1);
    }
    x.image();
    MastWind y = x;
    x.ice(9, 5);
    x.tight(11, 99);
    x.becomes(10, 1);
    x.tell(11, false);
    Edge.is(38, "ten PIECES", y.restore(), 10);
    int[] told = {10, 12, 12, 10, 0, 99, 12, 12, 8, 8};
    for (int what = 0; what <= 9; what++) {
      Edge.is(38, "told(" + what + ")", x.told(what), told[what]);
    }
    Edge.is(38, "the last ROPE", x.rope(11, 4), 12);
    Edge.is(38, "the last PIECE", x.piece(9, 5), 0);
    Edge.is(38, "the RULES", x.breach(9, 1), 0);
    Edge.is(38, "the TONES of the wind", x.gusts(1), 36);
  }

  private static void p38Refusals() {
    Edge.refuses(38, "restore() without an IMAGE", () -> Due.mast("p0 1 1 1 1;"), x -> x.restore(), -3);
    Edge.is(38, "restore() of a new object", new MastWind().restore(), -3);
    MastWind x = new MastWind();
    Edge.is(38, "restore() without, once more", x.restore() + x.restore(), -6);
    x.image();
    Edge.is(38, "restore() with one", x.restore(), 0);
  }

  // ---- promise 39

  private static void p39Counts() {
    MastWind x = Edge.full();
    int[] told = {2, 2, 2, 5 + 3 + 12 + 21, 10, 300, 2, 1, 2, 2};
    for (int what = 0; what <= 9; what++) {
      Edge.is(39, "told(" + what + ")", x.told(what), told[what]);
    }
    x.becomes(0, 1);
    Edge.is(39, "those WHOLE, one CUT", x.told(2), 1);
    x.becomes(1, 2);
    Edge.is(39, "those WHOLE, the other one OFF", x.told(2), 0);
    Edge.is(39, "ROPES, none of them WHOLE", x.told(1), 2);
    x.tell(1, false);
    Edge.is(39, "RULES told", x.told(7), 0);
    Edge.is(39, "RULES", x.told(6), 2);
  }

  private static void p39Ends() {
    MastWind x = new MastWind();
    for (int what = 0; what <= 9; what++) {
      Edge.is(39, "told(" + what + ") of a new object", x.told(what), 0);
    }
    MastWind y = Due.mast("p2 90 99 99 1;p2 91 99 99 1;p2 92 99 99 1;p2 93 99 99 1;p2 94 99 99 1;p2 95 99 99 1;f999;",
        "p2 96 99 99 1;p2 97 99 99 1;p2 98 99 99 1;p2 99 99 99 1;");
    for (int i = 0; i < 10; i++) {
      y.ice(i, 20);
    }
    Edge.is(39, "the greatest WEIGHT", y.told(3), 2580);
    Edge.is(39, "the most ICE", y.told(4), 200);
    Edge.is(39, "the FOOT that gives most", y.told(5), 999);
  }

  private static void p39Refusals() {
    Edge.refusesEach(39, "told(what)", Edge::full, (x, what) -> x.told(what), -1, -1, 10);
    for (int what = 0; what <= 9; what++) {
      int w = what;
      Edge.changesNothing(39, "told(" + what + ")", Edge::full, x -> x.told(w));
    }
  }
}
