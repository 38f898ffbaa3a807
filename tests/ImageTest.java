/** Promises 37 to 39: the image, and what is told. */
public final class ImageTest {

  public static void main(String[] args) {
    image();
    restoreBringsAllBack();
    restoreAgain();
    shelvesStay();
    told();
    Due.finish();
  }

  private static MastWind full() {
    MastWind x = Due.mast("p0 10 5 10 9;p2 30 6 20 8;f300;r0 e 10 20 50;r1 w 10 30 60;");
    x.becomes(1, 2);
    x.tight(0, 70);
    x.ice(1, 7);
    x.odds(1, 40);
    x.wind(30, -1);
    x.share(0, 50);
    x.share(4, 10);
    x.gust(3);
    x.gust(4);
    Due.lay(x, 0, "h=5");
    x.rule(0);
    Due.lay(x, 0, "h=6");
    x.rule(0);
    x.tell(0, false);
    x.offer(0, 5, 6);
    return x;
  }

  private static void isAsFull(MastWind x) {
    int[] told = {2, 2, 1, 5 + 12 + 21, 7, 300, 2, 1, 2, 1};
    for (int what = 0; what < told.length; what++) {
      Due.is("told(" + what + ")", x.told(what), told[what]);
    }
    int[][] pieces = {{0, 10, 5, 10, 9, 0, 5, 10}, {2, 30, 6, 20, 8, 7, 33, 20}};
    for (int i = 0; i < 2; i++) {
      for (int what = 0; what < 8; what++) {
        Due.is("piece(" + i + ", " + what + ")", x.piece(i, what), pieces[i][what]);
      }
    }
    int[][] ropes = {{0, 1, 10, 20, 70, 0, 5}, {1, 0, 10, 30, 60, 2, 7}};
    for (int i = 0; i < 2; i++) {
      for (int what = 0; what < 7; what++) {
        Due.is("rope(" + i + ", " + what + ")", x.rope(i, what), ropes[i][what]);
      }
    }
    Due.is("push(0)", x.push(0), -22);
    Due.is("push(1)", x.push(1), -180);
    Due.is("falls()", x.falls(), 600000);
    Due.is("gusts(0)", x.gusts(0), 5);
    Due.is("breach(0, 5)", x.breach(0, 5), -4);
    Due.is("breach(0, 6)", x.breach(0, 6), 1);
  }

  private static void image() {
    MastWind x = full();
    Due.is("restore() without", x.restore(), -3);
    isAsFull(x);
    Due.is("image()", x.image(), 2);
    isAsFull(x);
    Due.is("image() of a new one", new MastWind().image(), 0);
  }

  private static void spoil(MastWind x) {
    Due.is("text", Due.text(x, "p3 40 1 1 1;f7;r2 e 1 1 1;"), 3);
    x.becomes(0, 1);
    x.becomes(1, 0);
    x.tight(0, 1);
    x.ice(0, 20);
    x.ice(1, 0);
    x.odds(1, 0);
    x.wind(99, 1);
    x.share(0, 200);
    x.share(1, 3);
    x.gust(999);
    Due.lay(x, 0, "h=5|h=6");
    x.rule(0);
    x.tell(0, true);
    x.tell(1, false);
    x.offer(1, 9, 9);
  }

  private static void restoreBringsAllBack() {
    MastWind x = full();
    x.image();
    spoil(x);
    Due.is("restore()", x.restore(), 2);
    isAsFull(x);
    Due.is("share(0, 1)", x.share(0, 1), 50);
    Due.is("share(1, 1)", x.share(1, 1), 100);
    Due.is("share(4, 1)", x.share(4, 1), 10);
    Due.is("wind(0, 1)", x.wind(0, 1), 30);
    Due.is("odds(1, 0)", x.odds(1, 0), 40);
    // The OFFERS are those that were: of 6, for the ROPE 0.
    Due.is("offer", x.offer(1, 1, 1), 2);
  }

  private static void restoreAgain() {
    MastWind x = full();
    x.image();
    spoil(x);
    x.restore();
    spoil(x);
    Due.is("restore(), the same IMAGE again", x.restore(), 2);
    isAsFull(x);
    spoil(x);
    Due.is("image(), another", x.image(), 3);
    x.ice(2, 5);
    Due.is("restore(), the other IMAGE", x.restore(), 3);
    Due.is("ICE", x.piece(2, 5), 0);
    Due.is("told(6)", x.told(6), 3);
    MastWind empty = new MastWind();
    empty.image();
    Due.text(empty, "p0 1 1 1 1;f9;r0 e 1 1 1;");
    Due.is("restore() of nothing", empty.restore(), 0);
    Due.is("told(1)", empty.told(1), 0);
    Due.is("told(5)", empty.told(5), 0);
    Due.is("piece(0, 0)", empty.piece(0, 0), -1);
  }

  private static void shelvesStay() {
    MastWind x = full();
    x.keep(1, 1, 1);
    Due.lay(x, 2, 2, 77, 78);
    x.image();
    x.keep(1, 0, 0);
    x.put(2, 1, 79);
    x.keep(3, 1, 1);
    x.ice(1, 0);
    x.restore();
    Due.is("heft(1)", x.heft(1), -11);
    Due.is("element(2, 1)", x.element(2, 1), 79);
    // WEIGHT 33, HEIGHT 30, AREA 20, twice.
    Due.is("heft(3)", x.heft(3), 166);
    x.image();
    Due.is("heft(3) stays", x.heft(3), 166);
  }

  private static void told() {
    MastWind x = full();
    Due.is("told(-1)", x.told(-1), -1);
    Due.is("told(10)", x.told(10), -1);
    Due.is("told(2)", x.told(2), 1);
    x.becomes(0, 1);
    Due.is("told(2), CUT", x.told(2), 0);
    x.becomes(1, 0);
    Due.is("told(2), WHOLE", x.told(2), 1);
    x.ice(0, 3);
    Due.is("told(3)", x.told(3), 8 + 33);
    Due.is("told(4)", x.told(4), 10);
  }
}
