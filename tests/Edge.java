/** What the tests of edges share: each names its promise, and looks at the state behind a refusal. */
final class Edge {

  interface Make {
    MastWind mast();
  }

  interface Ask {
    long of(MastWind x);
  }

  interface AskWith {
    long of(MastWind x, int n);
  }

  static final int FALLS = -1000000003;

  /** Numbers beyond each range of the document but those of MARKS of YEARS and of what is put. */
  private static final int[] FAR_OUT = {Integer.MIN_VALUE, Integer.MIN_VALUE + 1, -65536, -65535, 65536, 65537,
    Integer.MAX_VALUE - 1, Integer.MAX_VALUE};

  private Edge() {
  }

  static void is(int promise, String call, long got, long want) {
    Due.is("promise " + promise + ": " + call, got, want);
  }

  /** The call answers this, and all is as it is without the call. */
  static void refuses(int promise, String call, Make make, Ask ask, long due) {
    MastWind x = make.mast();
    is(promise, call, ask.of(x), due);
    isAsWithout(promise, call, x, make);
  }

  /** As refuses, with each of the numbers, and with numbers far out. */
  static void refusesEach(int promise, String call, Make make, AskWith ask, long due, int... numbers) {
    for (int n : numbers) {
      refuses(promise, call + ", " + n, make, x -> ask.of(x, n), due);
    }
    for (int n : FAR_OUT) {
      refuses(promise, call + ", " + n, make, x -> ask.of(x, n), due);
    }
  }

  /** The call throws 1 IllegalArgumentException, 2 IllegalStateException; all is as it is without the call. */
  static void throwsIt(int promise, String call, Make make, Ask ask, int kind) {
    MastWind x = make.mast();
    is(promise, call + " throws", Due.thrown(() -> ask.of(x)), kind);
    isAsWithout(promise, call, x, make);
  }

  static void throwsEach(int promise, String call, Make make, AskWith ask, int kind, int... numbers) {
    for (int n : numbers) {
      throwsIt(promise, call + ", " + n, make, x -> ask.of(x, n), kind);
    }
    for (int n : FAR_OUT) {
      throwsIt(promise, call + ", " + n, make, x -> ask.of(x, n), kind);
    }
  }

  /** A question changes nothing. */
  static void changesNothing(int promise, String call, Make make, Ask ask) {
    MastWind x = make.mast();
    ask.of(x);
    isAsWithout(promise, call, x, make);
  }

  private static void isAsWithout(int promise, String call, MastWind x, Make make) {
    String got = Look.of(x);
    String want = Look.of(make.mast());
    boolean same = got.equals(want);
    is(promise, "all behind " + call + " is as it was" + (same ? "" : firstOther(got, want)), same ? 1 : 0, 1);
  }

  private static String firstOther(String got, String want) {
    String[] a = got.split("\n");
    String[] b = want.split("\n");
    for (int i = 0; i < Math.min(a.length, b.length); i++) {
      if (!a[i].equals(b[i])) {
        return " (" + a[i] + ", not " + b[i] + ")";
      }
    }
    return " (" + a.length + " lines, not " + b.length + ")";
  }

  /**
   * An object with something of everything, and an IMAGE that is another: SHELF 0 holds a RULE's bytes, 1 shorts,
   * 2 ints, 3 PIECE 1, 4 a TEXT's bytes with a FAULT, 5 an empty ROW of bytes, 6 and 7 nothing.
   */
  static MastWind full() {
    MastWind x = Due.mast("p0 10 5 10 9;p2 30 6 20 8;f300;r0 e 10 20 50;r1 w 10 30 60;");
    x.ice(1, 7);
    x.odds(1, 40);
    x.wind(30, -1);
    x.share(0, 50);
    x.gust(3);
    Due.lay(x, 0, "h=5");
    x.rule(0);
    x.offer(0, 5, 6);
    x.image();
    Due.lay(x, 0, "h=6");
    x.rule(0);
    x.tell(0, false);
    x.offer(1, 9, 4);
    x.gust(4);
    x.ice(0, 3);
    x.odds(0, 20);
    x.tight(0, 70);
    x.share(4, 90);
    x.wind(20, 1);
    Due.lay(x, 1, 1, 5, -6, 7);
    Due.lay(x, 2, 2, 0, 500, -20);
    x.keep(3, 1, 1);
    Due.lay(x, 4, "f8;q");
    Due.lay(x, 5, "");
    return x;
  }

  /** As full, in a WIND in which it FALLS. */
  static MastWind fallen() {
    MastWind x = full();
    x.wind(99, 1);
    x.share(1, 200);
    return x;
  }
}
