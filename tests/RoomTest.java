import java.lang.management.ManagementFactory;
import java.lang.reflect.Array;
import java.lang.reflect.Field;
import java.lang.reflect.Modifier;
import java.util.ArrayDeque;
import java.util.Collections;
import java.util.Deque;
import java.util.IdentityHashMap;
import java.util.Set;

/**
 * The room: what one object takes of it, and that no call of its 512 takes more, but for an exception that it
 * throws. The room of one run is some 600000 objects and arrays, with 7300000 fields and elements in all.
 */
public final class RoomTest {

  private static final long OBJECTS = 600000;
  private static final long CELLS = 7300000;
  /** So many objects of MastWind may live in one run. */
  private static final int LIVING = 512;

  interface Ask {
    long of(MastWind x);
  }

  private static final com.sun.management.ThreadMXBean BEAN =
      (com.sun.management.ThreadMXBean) ManagementFactory.getThreadMXBean();

  public static void main(String[] args) throws Exception {
    oneObject();
    questions();
    changes();
    Due.finish();
  }

  // ---- what an object takes

  private static void oneObject() throws Exception {
    Set<Object> seen = Collections.newSetFromMap(new IdentityHashMap<>());
    Deque<Object> left = new ArrayDeque<>();
    left.add(new MastWind());
    long cells = 0;
    while (!left.isEmpty()) {
      Object one = left.remove();
      if (seen.add(one)) {
        cells += one.getClass().isArray() ? elements(one, left) : fields(one, left);
      }
    }
    Due.is("objects and arrays of one MastWind, " + seen.size() + ", fit " + LIVING + " times",
        seen.size() * LIVING <= OBJECTS ? 1 : 0, 1);
    Due.is("fields and elements of one MastWind, " + cells + ", fit " + LIVING + " times",
        cells * LIVING <= CELLS ? 1 : 0, 1);
  }

  private static long elements(Object array, Deque<Object> left) {
    int length = Array.getLength(array);
    if (!array.getClass().getComponentType().isPrimitive()) {
      for (int i = 0; i < length; i++) {
        keep(Array.get(array, i), left);
      }
    }
    return length;
  }

  private static long fields(Object one, Deque<Object> left) throws Exception {
    long many = 0;
    for (Field f : one.getClass().getDeclaredFields()) {
      if (!Modifier.isStatic(f.getModifiers())) {
        many++;
        f.setAccessible(true);
        if (!f.getType().isPrimitive()) {
          keep(f.get(one), left);
        }
      }
    }
    return many;
  }

  private static void keep(Object one, Deque<Object> left) {
    if (one != null) {
      left.add(one);
    }
  }

  // ---- what calls take

  /** The first calls of a kind load what the machine itself needs; what all later ones take is measured. */
  private static void takesNothing(String call, MastWind x, Ask ask) {
    long sum = ask.of(x);
    sum += ask.of(x);
    long ahead = BEAN.getCurrentThreadAllocatedBytes();
    long behind = BEAN.getCurrentThreadAllocatedBytes();
    long own = behind - ahead;
    ahead = BEAN.getCurrentThreadAllocatedBytes();
    for (int i = 0; i < 4; i++) {
      sum += ask.of(x);
    }
    behind = BEAN.getCurrentThreadAllocatedBytes();
    Due.is("bytes that 4 calls of " + call + " take (their answers: " + sum + ")", behind - ahead - own, 0);
  }

  private static MastWind asked() {
    MastWind x = Due.mast("p0 9 9 9 9;p1 19 9 9 9;p2 29 9 9 9;p3 39 9 9 9;f400;",
        "r0 e 30 9 50;r1 w 30 9 50;r2 e 30 9 50;r3 w 30 9 50;r0 w 30 9 50;r1 e 30 9 50;");
    for (int i = 0; i < 4; i++) {
      x.ice(i, 5);
    }
    for (int i = 0; i < 6; i++) {
      x.offer(i, 5, 5);
    }
    Due.lay(x, 0, "s<12+l-3&(h=0|!p>9)");
    Due.lay(x, 1, 0, 5, 10, 20);
    Due.lay(x, 2, 2, 0, 500, -20, 70);
    x.rule(0);
    x.keep(3, 1, 2);
    return x;
  }

  private static void questions() {
    MastWind x = asked();
    takesNothing("piece", x, m -> m.piece(1, 7));
    takesNothing("rope", x, m -> m.rope(1, 6));
    takesNothing("push", x, m -> m.push(1));
    takesNothing("rest", x, m -> m.rest(7));
    takesNothing("stand", x, m -> m.stand());
    takesNothing("stands", x, m -> m.stands(-1));
    takesNothing("pull", x, m -> m.pull(1));
    takesNothing("loose", x, m -> m.loose());
    takesNothing("gusts", x, m -> m.gusts(0));
    takesNothing("count", x, m -> m.count(500));
    takesNothing("tone", x, m -> m.tone(9));
    takesNothing("shedding", x, m -> m.shedding(1, 5));
    takesNothing("lock", x, m -> m.lock(1, 0, 99, 1));
    takesNothing("falls", x, m -> m.falls());
    takesNothing("uneven", x, m -> m.uneven());
    takesNothing("after", x, m -> m.after(1));
    takesNothing("swings", x, m -> m.swings(2, 2));
    takesNothing("years", x, m -> m.years(2, 1000000000));
    takesNothing("fault", x, m -> m.fault(0));
    takesNothing("breach", x, m -> m.breach(1, 5));
    takesNothing("climb", x, m -> m.climb(5));
    takesNothing("order", x, m -> m.order(63, 50, 300, 9999));
    takesNothing("readBack", x, m -> m.readBack(1, 50, 9, 1));
    takesNothing("cheapest", x, m -> m.cheapest(1, 0, 0));
    takesNothing("told", x, m -> m.told(3));
    takesNothing("element", x, m -> m.element(2, 1));
    takesNothing("heft", x, m -> m.heft(3));
    takesNothing("toss", x, m -> m.toss(3));
  }

  private static void changes() {
    MastWind x = asked();
    takesNothing("text", x, m -> m.text(0));
    Due.lay(x, 4, "f9;r3 e 9 9 9;");
    takesNothing("text, one without FAULT", x, m -> m.text(4));
    takesNothing("becomes", x, m -> m.becomes(1, 1));
    takesNothing("tight", x, m -> m.tight(1, 70));
    takesNothing("ice", x, m -> m.ice(1, 7));
    takesNothing("wind", x, m -> m.wind(7, -1));
    takesNothing("share", x, m -> m.share(1, 50));
    takesNothing("gust", x, m -> m.gust(5));
    takesNothing("odds", x, m -> m.odds(1, 50));
    takesNothing("rule", x, m -> m.rule(0));
    takesNothing("tell", x, m -> m.tell(0, false));
    takesNothing("offer", x, m -> m.offer(1, 5, 5));
    takesNothing("image", x, m -> m.image());
    takesNothing("restore", x, m -> m.restore());
    takesNothing("keep", x, m -> m.keep(5, 1, 1));
    takesNothing("row", x, m -> m.row(6, 2, 120));
    takesNothing("put", x, m -> m.put(6, 5, 9));
    takesNothing("copy", x, m -> m.copy(6, 0, 6, 1, 100));
  }
}
