import java.util.Random;

/** Many runs of calls, the same for ever, each answered by MastWind and by PlainMast. */
public final class RandomRunsTest {

  interface Ask {
    long of();
  }

  private static final int RUNS = 1200;
  private static final int CALLS = 300;

  private final Random random;
  private final MastWind mast = new MastWind();
  private final PlainMast plain = new PlainMast();
  private final String run;
  private int calls;

  private RandomRunsTest(int seed) {
    random = new Random(seed);
    run = "run " + seed + ", call ";
  }

  public static void main(String[] args) {
    for (int seed = 0; seed < RUNS; seed++) {
      new RandomRunsTest(seed).go();
    }
    Due.finish();
  }

  private static long answer(Ask ask) {
    try {
      return ask.of();
    } catch (IllegalArgumentException e) {
      return e.getClass() == IllegalArgumentException.class ? Long.MIN_VALUE : Long.MIN_VALUE + 2;
    } catch (IllegalStateException e) {
      return Long.MIN_VALUE + 1;
    }
  }

  private void same(String call, Ask got, Ask want) {
    calls++;
    Due.is(run + calls + ": " + call, answer(got), answer(want));
  }

  private void go() {
    buildMast();
    while (calls < CALLS) {
      switch (random.nextInt(14)) {
        case 0: askParts(); break;
        case 1: change(); break;
        case 2: case 3: askStands(); break;
        case 4: askTones(); break;
        case 5: askIce(); break;
        case 6: askSwings(); break;
        case 7: case 8: askRules(); break;
        case 9: case 10: search(); break;
        case 11: askImage(); break;
        default: askShelves(); break;
      }
    }
  }

  /** A number of the range, or, one time of twenty, one beside it. */
  private int some(int least, int most) {
    switch (random.nextInt(40)) {
      case 0: return least - 1;
      case 1: return most + 1;
      default: return least + random.nextInt(most - least + 1);
    }
  }

  private int somePiece() {
    return some(0, Math.max(0, plain.s.pieces.size() - 1));
  }

  private int someRope() {
    return some(0, Math.max(0, plain.s.ropes.size() - 1));
  }

  private int someShelf() {
    return random.nextBoolean() ? some(0, 7) : random.nextInt(3);
  }

  private void layText(int d, String text) {
    same("row(" + d + ")", () -> mast.row(d, 0, text.length()), () -> plain.row(d, 0, text.length()));
    for (int i = 0; i < text.length(); i++) {
      int at = i;
      int sign = text.charAt(i);
      same("put(" + d + ")", () -> mast.put(d, at, sign), () -> plain.put(d, at, sign));
    }
  }

  private void readText(String text) {
    layText(0, text);
    same("text " + text, () -> mast.text(0), () -> plain.text(0));
  }

  private int between(int least, int most) {
    return least + random.nextInt(most - least + 1);
  }

  private void buildMast() {
    int pieces = between(1, random.nextBoolean() ? 3 : 7);
    StringBuilder text = new StringBuilder();
    int height = 0;
    for (int i = 0; i < pieces; i++) {
      height += between(1, 99 / pieces);
      text.append('p').append(between(0, 3)).append(' ').append(height).append(' ').append(between(1, 30))
          .append(' ').append(between(0, 60)).append(' ').append(between(1, 99)).append(';');
    }
    text.append('f').append(between(0, random.nextBoolean() ? 999 : 50)).append(';');
    readText(text.substring(0, Math.min(text.length(), 120)));
    text.setLength(0);
    int pairs = between(0, 3);
    for (int i = 0; i < pairs && !plain.s.pieces.isEmpty(); i++) {
      String piece = "r" + random.nextInt(plain.s.pieces.size());
      String rest = " " + between(10, 99) + " " + between(1, 99) + " ";
      int tight = between(0, random.nextBoolean() ? 60 : 999);
      text.append(piece).append(" e").append(rest).append(tight).append(';');
      text.append(piece).append(" w").append(rest).append(Math.min(999, tight + between(0, 20))).append(';');
    }
    readText(text.toString());
    int speed = random.nextInt(30);
    same("wind", () -> mast.wind(speed, 1), () -> plain.wind(speed, 1));
    if (random.nextInt(3) == 0) {
      for (int i = 0; i < plain.s.pieces.size(); i++) {
        int at = i;
        int n = random.nextInt(21);
        same("ice", () -> mast.ice(at, n), () -> plain.ice(at, n));
      }
      same("uneven()", () -> mast.uneven(), () -> plain.uneven());
    }
    if (random.nextInt(3) == 0) {
      for (int i = between(1, 8); i > 0; i--) {
        offerOne();
      }
    }
  }

  private void offerOne() {
    int r = someRope();
    int more = some(1, 99);
    int price = some(1, random.nextBoolean() ? 5 : 999);
    same("offer(" + r + ", " + more + ", " + price + ")", () -> mast.offer(r, more, price),
        () -> plain.offer(r, more, price));
  }

  private void askParts() {
    int i = somePiece();
    int r = someRope();
    int what = some(0, 7);
    same("piece(" + i + ", " + what + ")", () -> mast.piece(i, what), () -> plain.piece(i, what));
    same("rope(" + r + ", " + what + ")", () -> mast.rope(r, what), () -> plain.rope(r, what));
    int about = some(0, 9);
    same("told(" + about + ")", () -> mast.told(about), () -> plain.told(about));
    if (random.nextInt(4) == 0) {
      readText(badText());
    }
  }

  private String badText() {
    String good = "f7;p1 99 5 3 8;r0 e 9 9 9;f8;";
    StringBuilder text = new StringBuilder(good);
    String signs = "prf;0123 ew9\u00e9";
    for (int k = random.nextInt(3); k >= 0; k--) {
      text.setCharAt(random.nextInt(text.length()), signs.charAt(random.nextInt(signs.length())));
    }
    text.setLength(random.nextInt(4) == 0 ? random.nextInt(text.length()) : text.length());
    return text.toString();
  }

  private void change() {
    int i = somePiece();
    int r = someRope();
    switch (random.nextInt(7)) {
      case 0: {
        int how = random.nextInt(3) > 0 ? 0 : some(0, 2);
        same("becomes(" + r + ", " + how + ")", () -> mast.becomes(r, how), () -> plain.becomes(r, how));
        break;
      }
      case 1: {
        int n = some(0, 999);
        same("tight(" + r + ", " + n + ")", () -> mast.tight(r, n), () -> plain.tight(r, n));
        break;
      }
      case 2: case 3: {
        int n = some(0, 20);
        same("ice(" + i + ", " + n + ")", () -> mast.ice(i, n), () -> plain.ice(i, n));
        break;
      }
      case 4: {
        int speed = random.nextBoolean() ? random.nextInt(20) : some(0, 99);
        int side = random.nextInt(20) == 0 ? some(-2, 2) : random.nextBoolean() ? 1 : -1;
        same("wind(" + speed + ", " + side + ")", () -> mast.wind(speed, side), () -> plain.wind(speed, side));
        break;
      }
      case 5: {
        int k = some(0, 4);
        int n = some(0, 200);
        same("share(" + k + ", " + n + ")", () -> mast.share(k, n), () -> plain.share(k, n));
        break;
      }
      default: {
        int n = some(0, 100);
        same("odds(" + i + ", " + n + ")", () -> mast.odds(i, n), () -> plain.odds(i, n));
      }
    }
  }

  private void askStands() {
    int i = somePiece();
    int r = someRope();
    int l = some(-300, 300);
    int k = random.nextInt(4) - 1;
    same("push(" + i + ")", () -> mast.push(i), () -> plain.push(i));
    same("rest(" + l + ")", () -> mast.rest(l), () -> plain.rest(l));
    same("stand()", () -> mast.stand(), () -> plain.stand());
    same("stands(" + k + ")", () -> mast.stands(k), () -> plain.stands(k));
    same("pull(" + r + ")", () -> mast.pull(r), () -> plain.pull(r));
    same("loose()", () -> mast.loose(), () -> plain.loose());
    same("after(" + r + ")", () -> mast.after(r), () -> plain.after(r));
  }

  private void askTones() {
    int i = somePiece();
    int size = some(0, 999);
    int end = some(0, 1);
    int x = some(0, 9999);
    int n = random.nextInt(3) > 0 ? random.nextInt(3) : some(0, 9);
    int u = some(0, 99);
    int band = some(0, 99);
    same("gust(" + size + ")", () -> mast.gust(size), () -> plain.gust(size));
    same("gusts(" + end + ")", () -> mast.gusts(end), () -> plain.gusts(end));
    same("count(" + x + ")", () -> mast.count(x), () -> plain.count(x));
    if (random.nextInt(4) == 0) {
      same("tone(" + n + ")", () -> mast.tone(n), () -> plain.tone(n));
    }
    same("shedding(" + i + ", " + u + ")", () -> mast.shedding(i, u), () -> plain.shedding(i, u));
    if (random.nextInt(4) == 0) {
      same("lock(" + i + ", " + n + ", " + band + ", " + end + ")", () -> mast.lock(i, n, band, end),
          () -> plain.lock(i, n, band, end));
    }
  }

  private void askIce() {
    same("falls()", () -> mast.falls(), () -> plain.falls());
    same("uneven()", () -> mast.uneven(), () -> plain.uneven());
  }

  private void askSwings() {
    int d = someShelf();
    int n = random.nextInt(12);
    int sort = random.nextInt(8) == 0 ? some(0, 2) : 2;
    same("row(" + d + ", " + sort + ", " + n + ")", () -> mast.row(d, sort, n), () -> plain.row(d, sort, n));
    int step = random.nextBoolean() ? 3 : random.nextBoolean() ? 300 : Integer.MAX_VALUE;
    for (int i = 0; i < n; i++) {
      int at = i;
      int v = random.nextInt(step) * (random.nextBoolean() ? 1 : -1);
      same("put", () -> mast.put(d, at, v), () -> plain.put(d, at, v));
    }
    int what = some(0, 2);
    int mark = random.nextInt(9) == 0 ? 0 : random.nextInt(1 << 1 + random.nextInt(30)) + 1;
    same("swings(" + d + ", " + what + ")", () -> mast.swings(d, what), () -> plain.swings(d, what));
    same("years(" + d + ", " + mark + ")", () -> mast.years(d, mark), () -> plain.years(d, mark));
  }

  private String ruleText(int deep) {
    StringBuilder text = new StringBuilder();
    int tests = between(1, 2);
    for (int i = 0; i < tests; i++) {
      if (i > 0) {
        text.append(random.nextBoolean() ? '&' : '|');
      }
      if (random.nextInt(4) == 0) {
        text.append('!');
      }
      if (deep < 8 && random.nextInt(3) == 0) {
        text.append('(').append(ruleText(deep + 1)).append(')');
      } else {
        text.append(sum()).append("<>=".charAt(random.nextInt(3))).append(sum());
      }
    }
    return text.toString();
  }

  private String sum() {
    StringBuilder text = new StringBuilder();
    int atoms = between(1, 2);
    for (int i = 0; i < atoms; i++) {
      if (i > 0) {
        text.append(random.nextBoolean() ? '+' : '-');
      }
      if (random.nextBoolean()) {
        text.append("slicohpk".charAt(random.nextInt(8)));
      } else {
        text.append(random.nextInt(1 << random.nextInt(13)));
      }
    }
    return text.toString();
  }

  private void askRules() {
    if (random.nextInt(4) == 0) {
      StringBuilder text = new StringBuilder(ruleText(random.nextInt(9)));
      text.setLength(Math.min(120, text.length()));
      if (random.nextInt(3) == 0) {
        String signs = "()!&|<=+-0slich";
        text.setCharAt(random.nextInt(text.length()), signs.charAt(random.nextInt(signs.length())));
      }
      int d = random.nextInt(8);
      layText(d, text.toString());
      same("fault of " + text, () -> mast.fault(d), () -> plain.fault(d));
      same("rule " + text, () -> mast.rule(d), () -> plain.rule(d));
    }
    int k = some(0, Math.max(0, plain.s.rules.size() - 1));
    boolean told = random.nextBoolean();
    int i = somePiece();
    int hour = some(0, 23);
    int d = someShelf();
    same("tell(" + k + ", " + told + ")", () -> mast.tell(k, told), () -> plain.tell(k, told));
    same("breach(" + i + ", " + hour + ")", () -> mast.breach(i, hour), () -> plain.breach(i, hour));
    same("climb(" + hour + ")", () -> mast.climb(hour), () -> plain.climb(hour));
    same("fault(" + d + ")", () -> mast.fault(d), () -> plain.fault(d));
    same("rule(" + d + ")", () -> mast.rule(d), () -> plain.rule(d));
  }

  private void search() {
    int r = someRope();
    int what = some(0, 1);
    switch (random.nextInt(4)) {
      case 0: {
        int set = random.nextInt(8) == 0 ? random.nextInt() : random.nextInt(1 << plain.s.ropes.size());
        int tight = random.nextInt(8) == 0 ? some(0, 999) : random.nextInt(120);
        int lean = random.nextBoolean() ? 300 : some(0, 300);
        int pull = random.nextBoolean() ? some(1, 9999) : between(50, 999);
        same("order(" + set + ", " + tight + ", " + lean + ", " + pull + ")",
            () -> mast.order(set, tight, lean, pull), () -> plain.order(set, tight, lean, pull));
        break;
      }
      case 1: {
        int seen = random.nextBoolean() ? Math.max(0, plain.pull(r)) : some(0, 999);
        int doubt = some(0, 99);
        same("readBack(" + r + ", " + seen + ", " + doubt + ", " + what + ")",
            () -> mast.readBack(r, seen, doubt, what), () -> plain.readBack(r, seen, doubt, what));
        break;
      }
      case 2: {
        offerOne();
        break;
      }
      default:
        askCheapest(what);
    }
  }

  private void askCheapest(int what) {
    int d = someShelf();
    int n = random.nextInt(12) == 0 ? random.nextInt(12) : between(1, 3);
    same("row(" + d + ")", () -> mast.row(d, 0, n), () -> plain.row(d, 0, n));
    for (int i = 0; i < n; i++) {
      int at = i;
      int u = random.nextInt(15) == 0 ? some(0, 99) : random.nextInt(25);
      same("put", () -> mast.put(d, at, u), () -> plain.put(d, at, u));
    }
    int worst = worstLean(d);
    int mark = worst > 0 && random.nextInt(5) > 0 ? worst - between(1, 1 + worst / 3) : some(0, 300);
    same("cheapest(" + d + ", " + mark + ", " + what + ")", () -> mast.cheapest(d, mark, what),
        () -> plain.cheapest(d, mark, what));
  }

  /** The greatest LEAN in the WINDS of a ROW as the ROPES are now, so that a MARK can be near it. */
  private int worstLean(int d) {
    if (d < 0 || d > 7) {
      return 0;
    }
    int worst = 0;
    PlainMast.State trial = plain.s.twin();
    for (int u : plain.shelves[d].row) {
      for (int side = -1; side <= 1; side += 2) {
        trial.speed = Math.max(0, Math.min(99, u));
        trial.side = side;
        int l = trial.stand();
        worst = Math.max(worst, l == PlainMast.FALLS ? 300 : Math.abs(l));
      }
    }
    return worst;
  }

  private void askImage() {
    int kind = random.nextInt(6);
    if (kind == 0) {
      same("image()", () -> mast.image(), () -> plain.image());
    } else if (kind == 1) {
      same("restore()", () -> mast.restore(), () -> plain.restore());
    }
    for (int i = 0; i <= 9; i++) {
      int about = i;
      same("told(" + i + ")", () -> mast.told(about), () -> plain.told(about));
    }
  }

  private void askShelves() {
    int d = someShelf();
    int e = someShelf();
    int what = some(0, 1);
    int k = somePiece();
    int i = some(0, 9);
    int j = some(0, 9);
    int n = some(0, 5);
    int v = random.nextInt();
    int sort = some(0, 2);
    int size = random.nextInt(9) == 0 ? random.nextBoolean() ? 121 : -1 : random.nextInt(12);
    switch (random.nextInt(5)) {
      case 0:
        same("keep(" + d + ", " + what + ", " + k + ")", () -> mast.keep(d, what, k), () -> plain.keep(d, what, k));
        break;
      case 1:
        same("row(" + d + ", " + sort + ", " + size + ")", () -> mast.row(d, sort, size),
            () -> plain.row(d, sort, size));
        break;
      case 2:
        same("copy(" + d + ", " + i + ", " + e + ", " + j + ", " + n + ")", () -> mast.copy(d, i, e, j, n),
            () -> plain.copy(d, i, e, j, n));
        break;
      default:
        same("put(" + d + ", " + i + ", " + v + ")", () -> mast.put(d, i, v), () -> plain.put(d, i, v));
    }
    same("element(" + d + ", " + i + ")", () -> mast.element(d, i), () -> plain.element(d, i));
    same("heft(" + d + ")", () -> mast.heft(d), () -> plain.heft(d));
    same("toss(" + d + ")", () -> mast.toss(d), () -> plain.toss(d));
  }
}
