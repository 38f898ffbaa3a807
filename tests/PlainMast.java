import java.util.ArrayList;
import java.util.Arrays;
import java.util.List;

/**
 * The document once more, in the slowest and plainest way: every question is answered from
 * its words by trying all there is. RandomRunsTest holds MastWind against it.
 */
final class PlainMast {

  static final int FALLS = Integer.MIN_VALUE;
  static final int FAR = -1000000000;

  static final class P implements Cloneable {
    int kind, height, mass, area, stiffness, ice, odds, number;

    P twin() {
      P p = new P();
      p.kind = kind; p.height = height; p.mass = mass; p.area = area;
      p.stiffness = stiffness; p.ice = ice; p.odds = odds; p.number = number;
      return p;
    }

    int weight() {
      switch (kind) {
        case 0: return mass + ice;
        case 1: return mass * 2 + ice;
        case 2: return mass * 2 + ice + ice * 2;
        default: return mass * 2 + ice + 5;
      }
    }

    int faces() {
      switch (kind) {
        case 0: return area + ice / 2;
        case 2: return area / 2 + ice / 2 + ice;
        default: return area / 2 + ice / 2;
      }
    }
  }

  static final class R {
    int piece, side, reach, stretch, tight, how;

    R twin() {
      R r = new R();
      r.piece = piece; r.side = side; r.reach = reach; r.stretch = stretch; r.tight = tight; r.how = how;
      return r;
    }
  }

  static final class Offer {
    int rope, more, price;
  }

  static final class State {
    List<P> pieces = new ArrayList<>();
    List<R> ropes = new ArrayList<>();
    int foot, speed, side = 1;
    int[] shares = {100, 100, 100, 100, 100};
    List<Integer> tones = new ArrayList<>();
    List<String> rules = new ArrayList<>();
    List<Boolean> told = new ArrayList<>();
    List<Offer> offers = new ArrayList<>();
    // Only for what happens AFTER a ROPE is CUT.
    long less;

    State twin() {
      State s = new State();
      for (P p : pieces) s.pieces.add(p.twin());
      for (R r : ropes) s.ropes.add(r.twin());
      s.foot = foot; s.speed = speed; s.side = side;
      s.shares = shares.clone();
      s.tones.addAll(tones);
      s.rules.addAll(rules);
      s.told.addAll(told);
      s.offers.addAll(offers);
      return s;
    }

    int arm(R r) {
      int h = pieces.get(r.piece).height;
      return Math.max(1, h * r.reach / (h + r.reach));
    }

    int pulls(R r, int l) {
      if (r.how != 0) return 0;
      return Math.max(0, r.tight - r.side * r.stretch * l * arm(r) / 1000);
    }

    long push(P p) {
      int share = p.height < 20 ? shares[0] : p.height < 40 ? shares[1] : p.height < 60 ? shares[2]
          : p.height < 80 ? shares[3] : shares[4];
      long v = speed * share / 100;
      return v * v * p.faces() / 100 * side;
    }

    long rest(int l) {
      long sum = 0;
      for (P p : pieces) sum += push(p) * p.height;
      for (P p : pieces) sum += p.weight() * p.height * l / 1000;
      for (R r : ropes) sum += (long) pulls(r, l) * arm(r) * r.side;
      return sum - foot * l - less;
    }

    int stand() {
      if (rest(0) >= 0) {
        for (int l = 0; l + 1 <= 300; l++) if (rest(l + 1) < 0) return l;
        return FALLS;
      }
      for (int l = -1; l >= -300; l--) if (rest(l) >= 0) return l;
      return FALLS;
    }

    int counts(int x) {
      long[] q = new long[pieces.size()];
      int below = 0;
      for (int i = 0; i < q.length; i++) {
        P p = pieces.get(i);
        long a = p.stiffness + (i + 1 < q.length ? pieces.get(i + 1).stiffness : 0) - x * p.weight() / 100;
        if (i == 0) q[i] = 1000 * a;
        else q[i] = 1000 * a - 1000000L * p.stiffness * p.stiffness / (q[i - 1] == 0 ? 1 : q[i - 1]);
        if (q[i] < 0) below++;
      }
      return below;
    }

    int toneOf(int n) {
      for (int x = 0; x <= 9999; x++) if (counts(x) > n) return x;
      return -4;
    }
  }

  static final class Held {
    P piece;
    int sort;
    int[] row;
  }

  State s = new State();
  State old;
  Held[] shelves = new Held[8];

  // ---- texts

  static String chars(int[] row) {
    StringBuilder b = new StringBuilder();
    for (int v : row) b.append((char) (v & 255));
    return b.toString();
  }

  /** Whether a text is the beginning of any TEXT: tried by patterns. */
  static final java.util.regex.Pattern STATEMENTS;
  static {
    String n = "(?:0|[1-9][0-9]{0,2})";
    STATEMENTS = java.util.regex.Pattern.compile("(?:p" + n + "(?: " + n + "){4};|r" + n + " [ew](?: " + n
        + "){3};|f" + n + ";)+");
  }

  /** The longest beginning with which a text of the pattern can go on. */
  static int goesOn(java.util.regex.Pattern pattern, String text) {
    for (int size = text.length(); size > 0; size--) {
      java.util.regex.Matcher m = pattern.matcher(text.substring(0, size));
      if (m.matches() || m.hitEnd()) return size;
    }
    return 0;
  }

  int refusal(int d, int sort) {
    if (d < 0 || d > 7) return -1;
    if (shelves[d] == null) return -11;
    if (shelves[d].row == null || sort >= 0 && shelves[d].sort != sort) return -12;
    return 0;
  }

  int pieceRefusal(int d) {
    if (d < 0 || d > 7) return -1;
    if (shelves[d] == null) return -11;
    return shelves[d].piece == null ? -12 : 0;
  }

  int text(int d) {
    int no = refusal(d, 0);
    if (no != 0) return no;
    String t = chars(shelves[d].row);
    if (!STATEMENTS.matcher(t).matches()) return -1000 - goesOn(STATEMENTS, t);
    State made = s.twin();
    int place = 0;
    String[] all = t.split(";");
    for (String one : all) {
      if (!made(made, one)) return -2000 - place;
      place += one.length() + 1;
    }
    s = made;
    return all.length;
  }

  static boolean in(int v, int least, int most) {
    return v >= least && v <= most;
  }

  static boolean made(State m, String one) {
    String[] w = one.substring(1).split(" ");
    if (one.charAt(0) == 'f') {
      m.foot = Integer.parseInt(w[0]);
      return in(m.foot, 0, 999);
    }
    if (one.charAt(0) == 'p') {
      P p = new P();
      p.kind = Integer.parseInt(w[0]);
      p.height = Integer.parseInt(w[1]);
      p.mass = Integer.parseInt(w[2]);
      p.area = Integer.parseInt(w[3]);
      p.stiffness = Integer.parseInt(w[4]);
      p.number = m.pieces.size();
      if (m.pieces.size() == 10) return false;
      for (P q : m.pieces) if (q.height >= p.height) return false;
      m.pieces.add(p);
      return in(p.kind, 0, 3) && in(p.height, 1, 99) && in(p.mass, 1, 99) && in(p.area, 0, 99)
          && in(p.stiffness, 1, 99);
    }
    R r = new R();
    r.piece = Integer.parseInt(w[0]);
    r.side = w[1].equals("e") ? 1 : -1;
    r.reach = Integer.parseInt(w[2]);
    r.stretch = Integer.parseInt(w[3]);
    r.tight = Integer.parseInt(w[4]);
    if (m.ropes.size() == 12) return false;
    m.ropes.add(r);
    return r.piece < m.pieces.size() && in(r.reach, 1, 99) && in(r.stretch, 1, 99) && in(r.tight, 0, 999);
  }

  // ---- parts

  boolean noPiece(int i) {
    return i < 0 || i >= s.pieces.size();
  }

  boolean noRope(int i) {
    return i < 0 || i >= s.ropes.size();
  }

  int piece(int i, int what) {
    if (noPiece(i) || !in(what, 0, 7)) return -1;
    P p = s.pieces.get(i);
    return new int[] {p.kind, p.height, p.mass, p.area, p.stiffness, p.ice, p.weight(), p.faces()}[what];
  }

  int rope(int i, int what) {
    if (noRope(i) || !in(what, 0, 6)) return -1;
    R r = s.ropes.get(i);
    return new int[] {r.piece, r.side == 1 ? 1 : 0, r.reach, r.stretch, r.tight, r.how, s.arm(r)}[what];
  }

  int becomes(int i, int how) {
    if (noRope(i) || !in(how, 0, 2)) return -1;
    int was = s.ropes.get(i).how;
    s.ropes.get(i).how = how;
    return was;
  }

  int tight(int i, int n) {
    if (noRope(i) || !in(n, 0, 999)) return -1;
    int was = s.ropes.get(i).tight;
    s.ropes.get(i).tight = n;
    return was;
  }

  int ice(int i, int n) {
    if (noPiece(i) || !in(n, 0, 20)) return -1;
    int was = s.pieces.get(i).ice;
    s.pieces.get(i).ice = n;
    return was;
  }

  // ---- winds

  int wind(int speed, int side) {
    if (!in(speed, 0, 99) || side != 1 && side != -1) return -1;
    int was = s.speed;
    s.speed = speed;
    s.side = side;
    return was;
  }

  int share(int i, int n) {
    if (!in(i, 0, 4) || !in(n, 0, 200)) return -1;
    int was = s.shares[i];
    s.shares[i] = n;
    return was;
  }

  long push(int i) {
    if (noPiece(i)) throw new IllegalArgumentException();
    return s.push(s.pieces.get(i));
  }

  long rest(int l) {
    if (!in(l, -300, 300)) throw new IllegalArgumentException();
    return s.rest(l);
  }

  int stand() {
    int l = s.stand();
    return l == FALLS ? FAR - 3 : l;
  }

  int stands(int i) {
    if (i < -1) return FAR - 1;
    List<Integer> all = new ArrayList<>();
    for (int l = -300; l <= 299; l++) if (s.rest(l) >= 0 && s.rest(l + 1) < 0) all.add(l);
    return i == -1 ? all.size() : i < all.size() ? all.get(i) : FAR - 4;
  }

  int pull(int i) {
    if (noRope(i)) return -1;
    int l = s.stand();
    return l == FALLS ? -3 : s.pulls(s.ropes.get(i), l);
  }

  int loose() {
    int l = s.stand();
    if (l == FALLS) return -3;
    int set = 0;
    for (int i = 0; i < s.ropes.size(); i++) {
      if (s.ropes.get(i).how == 0 && s.pulls(s.ropes.get(i), l) == 0) set += 1 << i;
    }
    return set;
  }

  // ---- gusts, tones

  int gust(int size) {
    if (!in(size, 0, 999)) return -1;
    if (s.tones.size() == 8) return -2;
    s.tones.add(size);
    return s.tones.size();
  }

  int gusts(int what) {
    if (!in(what, 0, 1)) return -1;
    long sum = 0, squares = 0;
    for (int t : s.tones) {
      sum += t;
      squares += (long) t * t;
    }
    return (int) (what == 1 ? sum : java.math.BigInteger.valueOf(squares).sqrt().longValue());
  }

  int count(int x) {
    return in(x, 0, 9999) ? s.counts(x) : -1;
  }

  int tone(int n) {
    return in(n, 0, 9) ? s.toneOf(n) : -1;
  }

  int shedding(int i, int u) {
    return noPiece(i) || !in(u, 0, 99) ? -1 : 20 * u / Math.max(1, s.pieces.get(i).area);
  }

  int lock(int i, int n, int band, int what) {
    if (noPiece(i) || !in(n, 0, 9) || !in(band, 0, 99) || !in(what, 0, 1)) return -1;
    int x = s.toneOf(n);
    if (x < 0) return -3;
    List<Integer> all = new ArrayList<>();
    for (int u = 0; u <= 99; u++) if (Math.abs(shedding(i, u) - x) <= band) all.add(u);
    return all.isEmpty() ? -4 : all.get(what == 0 ? 0 : all.size() - 1);
  }

  // ---- ice, ropes, swings

  int odds(int i, int n) {
    if (noPiece(i) || !in(n, 0, 100)) return -1;
    int was = s.pieces.get(i).odds;
    s.pieces.get(i).odds = n;
    return was;
  }

  int falls() {
    long x = 1000000;
    for (P p : s.pieces) if (p.ice > 0) x = x * (100 - p.odds) / 100;
    return (int) x;
  }

  int uneven() {
    List<Integer> icy = new ArrayList<>();
    for (int i = 0; i < s.pieces.size(); i++) if (s.pieces.get(i).ice > 0 && icy.size() < 6) icy.add(i);
    long worst = -1;
    int set = 0;
    for (int bits = 0; bits < 1 << icy.size(); bits++) {
      State t = s.twin();
      for (int j = 0; j < icy.size(); j++) if ((bits & 1 << j) != 0) t.pieces.get(icy.get(j)).ice = 0;
      int l = t.stand();
      long size = l == FALLS ? 1000000 : Math.abs(l);
      if (size > worst) {
        worst = size;
        set = bits;
      }
    }
    return set;
  }

  int after(int i) {
    if (noRope(i)) return FAR - 1;
    R r = s.ropes.get(i);
    int l = s.stand();
    if (r.how != 0 || l == FALLS) return FAR - 3;
    State t = s.twin();
    t.ropes.get(i).how = 1;
    t.less = (long) r.side * (s.pulls(r, l) / 2 * s.arm(r));
    int then = t.stand();
    return then == FALLS ? FAR - 3 : then;
  }

  static List<Long> sizes(int[] row) {
    List<Integer> other = new ArrayList<>();
    for (int v : row) if (other.isEmpty() || other.get(other.size() - 1) != v) other.add(v);
    List<Long> turns = new ArrayList<>();
    for (int i = 0; i < other.size(); i++) {
      boolean end = i == 0 || i == other.size() - 1;
      if (end || other.get(i - 1) < other.get(i) == other.get(i + 1) < other.get(i)) turns.add((long) other.get(i));
    }
    List<Long> sizes = new ArrayList<>();
    for (int i = 1; i < turns.size(); i++) sizes.add(Math.abs(turns.get(i) - turns.get(i - 1)));
    return sizes;
  }

  static long tired(int[] row) {
    long sum = 0;
    for (long size : sizes(row)) {
      java.math.BigInteger third = java.math.BigInteger.valueOf(size / 10).pow(3);
      sum += third.min(java.math.BigInteger.valueOf(1000000)).longValue();
    }
    return sum;
  }

  long swings(int d, int what) {
    if (!in(what, 0, 2)) return -1;
    int no = refusal(d, 2);
    if (no != 0) return no;
    List<Long> sizes = sizes(shelves[d].row);
    if (what == 0) return sizes.size();
    if (what == 2) return tired(shelves[d].row);
    long most = 0;
    for (long size : sizes) most = Math.max(most, size);
    return Math.min(most, 2147483647L);
  }

  int years(int d, int mark) {
    if (!in(mark, 1, 1000000000)) return -1;
    int no = refusal(d, 2);
    if (no != 0) return no;
    long tired = tired(shelves[d].row);
    if (tired == 0) return -4;
    for (int y = 1; y < 1000000; y++) if (tired * y >= mark) return y;
    return 1000000;
  }

  // ---- rules

  /** A RULE read by going down its grammar; each part answers where it ends. */
  final class Rule {
    final String t;
    int at;
    boolean bad;
    int lean, hour, piece;

    Rule(String t) {
      this.t = t;
    }

    char next() {
      return at < t.length() ? t.charAt(at) : 0;
    }

    boolean or(int deep) {
      boolean v = and(deep);
      if (bad || next() != '|') return v;
      at++;
      return or(deep) | v;
    }

    boolean and(int deep) {
      boolean v = test(deep);
      if (bad || next() != '&') return v;
      at++;
      return and(deep) & v;
    }

    boolean test(int deep) {
      if (bad) return false;
      if (next() == '!') {
        at++;
        return !test(deep);
      }
      if (next() == '(') {
        if (deep == 8) {
          bad = true;
          return false;
        }
        at++;
        boolean v = or(deep + 1);
        if (bad || next() != ')') bad = true;
        else at++;
        return v;
      }
      long left = sum();
      if (bad) return false;
      char sign = next();
      if (sign != '<' && sign != '>' && sign != '=') {
        bad = true;
        return false;
      }
      at++;
      long right = sum();
      return sign == '<' ? left < right : sign == '>' ? left > right : left == right;
    }

    long sum() {
      long v = atom();
      while (!bad && (next() == '+' || next() == '-')) {
        boolean plus = next() == '+';
        at++;
        long a = atom();
        v += plus ? a : -a;
      }
      return v;
    }

    long atom() {
      java.util.regex.Matcher m = java.util.regex.Pattern.compile("0|[1-9][0-9]{0,3}").matcher(t.substring(at));
      if (m.lookingAt()) {
        at += m.end();
        return Long.parseLong(m.group());
      }
      int letter = "slicohpk".indexOf(next());
      if (letter < 0) {
        bad = true;
        return 0;
      }
      at++;
      return field(letter);
    }

    long field(int letter) {
      switch (letter) {
        case 0: return s.speed;
        case 1: return lean == FALLS ? 999 : lean;
        case 2: return told(4);
        case 3: return s.ropes.size() - told(2);
        case 4: return lean == FALLS ? 0 : Integer.bitCount(loose());
        case 5: return hour;
        case 6: return piece;
        default: return s.pieces.isEmpty() ? 0 : s.pieces.get(piece).kind;
      }
    }
  }

  int faultOf(String t) {
    Rule r = new Rule(t);
    r.lean = FALLS;
    r.or(0);
    return r.bad || r.at < t.length() ? r.at : -4;
  }

  int fault(int d) {
    int no = refusal(d, 0);
    return no != 0 ? no : faultOf(chars(shelves[d].row));
  }

  int rule(int d) {
    if (d < 0 || d > 7) return -1;
    if (s.rules.size() == 12) return -2;
    int f = fault(d);
    if (f == -11 || f == -12) return f;
    if (f != -4) return -100 - f;
    s.rules.add(chars(shelves[d].row));
    s.told.add(true);
    return s.rules.size() - 1;
  }

  int tell(int rule, boolean told) {
    if (rule < 0 || rule >= s.rules.size()) return -1;
    boolean was = s.told.get(rule);
    s.told.set(rule, told);
    return was != told ? 1 : 0;
  }

  int breach(int i, int hour) {
    if (noPiece(i) || !in(hour, 0, 23)) return -1;
    int lean = s.stand();
    for (int k = 0; k < s.rules.size(); k++) {
      Rule r = new Rule(s.rules.get(k));
      r.lean = lean;
      r.hour = hour;
      r.piece = i;
      if (r.or(0) && s.told.get(k)) return k;
    }
    return -4;
  }

  int climb(int hour) {
    if (!in(hour, 0, 23)) return -1;
    int best = -4;
    for (int i = 0; i < s.pieces.size() && breach(i, hour) == -4; i++) best = i;
    return best;
  }

  // ---- ropes anew, sights, strengthening

  static boolean safe(State t, int lean, int pull) {
    int l = t.stand();
    if (l == FALLS || Math.abs(l) > lean) return false;
    for (R r : t.ropes) if (t.pulls(r, l) > pull) return false;
    return true;
  }

  long order(int set, int tight, int lean, int pull) {
    if (set <= 0 || set >= 1 << s.ropes.size() || Integer.bitCount(set) > 6) return -1;
    if (!in(tight, 0, 999) || !in(lean, 0, 300) || !in(pull, 1, 9999)) return -1;
    for (int i = 0; i < s.ropes.size(); i++) if ((set & 1 << i) != 0 && s.ropes.get(i).how != 0) return -1;
    int[] done = new int[6];
    return tryAll(s.twin(), set, done, 0, new int[] {tight, lean, pull});
  }

  static long tryAll(State t, int left, int[] done, int many, int[] told) {
    if (left == 0) {
      long answer = 0;
      for (int i = many - 1; i >= 0; i--) answer = answer * 16 + done[i];
      return answer;
    }
    for (int i = 0; i < t.ropes.size(); i++) {
      if ((left & 1 << i) == 0) continue;
      State u = t.twin();
      u.ropes.get(i).how = 2;
      if (!safe(u, told[1], told[2])) continue;
      u.ropes.get(i).how = 0;
      u.ropes.get(i).tight = told[0];
      if (!safe(u, told[1], told[2])) continue;
      done[many] = i;
      long answer = tryAll(u, left & ~(1 << i), done, many + 1, told);
      if (answer >= 0) return answer;
    }
    return -4;
  }

  int readBack(int i, int pulls, int doubt, int what) {
    if (noRope(i) || !in(pulls, 0, 9999) || !in(doubt, 0, 99) || !in(what, 0, 1)) return -1;
    if (s.ropes.get(i).how != 0) return -3;
    State t = s.twin();
    int found = -4;
    for (int n = 0; n <= 999; n++) {
      t.ropes.get(i).tight = n;
      int l = t.stand();
      if (l == FALLS || Math.abs(t.pulls(t.ropes.get(i), l) - pulls) > doubt) continue;
      if (what == 0) return n;
      found = n;
    }
    return found;
  }

  int offer(int rope, int more, int price) {
    if (noRope(rope) || !in(more, 1, 99) || !in(price, 1, 999)) return -1;
    if (s.offers.size() == 8) return -2;
    Offer o = new Offer();
    o.rope = rope;
    o.more = more;
    o.price = price;
    s.offers.add(o);
    return s.offers.size();
  }

  int cheapest(int d, int mark, int what) {
    if (!in(mark, 0, 300) || !in(what, 0, 1)) return -1;
    int no = refusal(d, 0);
    if (no != 0) return no;
    int[] speeds = shelves[d].row;
    if (!in(speeds.length, 1, 8)) return -13;
    for (int u : speeds) if (!in(u, 0, 99)) return -13;
    int best = -4, bestSet = -4;
    for (int set = 0; set < 1 << s.offers.size(); set++) {
      State t = s.twin();
      int price = 0;
      for (int k = 0; k < s.offers.size(); k++) {
        if ((set & 1 << k) == 0) continue;
        Offer o = s.offers.get(k);
        price += o.price;
        t.ropes.get(o.rope).stretch = Math.min(99, t.ropes.get(o.rope).stretch + o.more);
      }
      if ((best < 0 || price < best) && holds(t, speeds, mark)) {
        best = price;
        bestSet = set;
      }
    }
    return what == 0 ? best : bestSet;
  }

  static boolean holds(State t, int[] speeds, int mark) {
    for (int u : speeds) {
      for (int side = -1; side <= 1; side += 2) {
        t.speed = u;
        t.side = side;
        int l = t.stand();
        if (l == FALLS || Math.abs(l) > mark) return false;
      }
    }
    return true;
  }

  // ---- the image, what is told

  int image() {
    old = s.twin();
    return s.pieces.size();
  }

  int restore() {
    if (old == null) return -3;
    s = old.twin();
    return s.pieces.size();
  }

  int told(int what) {
    int sum = 0;
    switch (what) {
      case 0: return s.pieces.size();
      case 1: return s.ropes.size();
      case 2:
        for (R r : s.ropes) if (r.how == 0) sum++;
        return sum;
      case 3:
        for (P p : s.pieces) sum += p.weight();
        return sum;
      case 4:
        for (P p : s.pieces) sum += p.ice;
        return sum;
      case 5: return s.foot;
      case 6: return s.rules.size();
      case 7:
        for (boolean b : s.told) if (b) sum++;
        return sum;
      case 8: return s.tones.size();
      case 9: return s.offers.size();
      default: return -1;
    }
  }

  // ---- shelves

  int keep(int d, int what, int k) {
    if (!in(d, 0, 7) || !in(what, 0, 1)) return -1;
    if (what == 1 && noPiece(k)) return -1;
    shelves[d] = null;
    if (what == 1) {
      shelves[d] = new Held();
      shelves[d].piece = s.pieces.get(k).twin();
    }
    return 0;
  }

  int row(int d, int sort, int n) {
    if (!in(d, 0, 7) || !in(sort, 0, 2) || n > 120) return -1;
    if (n < 0) return -14;
    shelves[d] = new Held();
    shelves[d].sort = sort;
    shelves[d].row = new int[n];
    return 0;
  }

  int put(int d, int i, int v) {
    int no = refusal(d, -1);
    if (no != 0) return no;
    if (i < 0 || i >= shelves[d].row.length) return -13;
    int bits = new int[] {24, 16, 0}[shelves[d].sort];
    shelves[d].row[i] = v << bits >> bits;
    return 0;
  }

  long element(int d, int i) {
    if (!in(d, 0, 7)) throw new IllegalArgumentException();
    if (refusal(d, -1) != 0 || i < 0 || i >= shelves[d].row.length) throw new IllegalStateException();
    return shelves[d].row[i];
  }

  int copy(int d, int i, int e, int j, int n) {
    if (!in(d, 0, 7) || !in(e, 0, 7)) return -1;
    if (shelves[d] == null || shelves[e] == null) return -11;
    if (shelves[d].row == null || shelves[e].row == null || shelves[d].sort != shelves[e].sort) return -12;
    try {
      int[] from = Arrays.copyOf(shelves[d].row, shelves[d].row.length);
      System.arraycopy(from, i, shelves[e].row, j, n);
      return n;
    } catch (IndexOutOfBoundsException x) {
      return -13;
    }
  }

  int heft(int d) {
    int no = pieceRefusal(d);
    if (no != 0) return no;
    P p = shelves[d].piece;
    int plain = p.weight() + p.height;
    switch (p.kind) {
      case 0: return plain;
      case 1: return plain + p.area;
      case 2: return (plain + p.area) * 2;
      default: return plain + p.area + p.stiffness;
    }
  }

  int toss(int d) {
    int no = pieceRefusal(d);
    if (no != 0) return no;
    P p = shelves[d].piece;
    if (p.kind == 3 || p.kind == 2 && p.ice == 0) return -15;
    return p.kind == 2 ? p.number + 100 + p.ice : p.number;
  }
}
