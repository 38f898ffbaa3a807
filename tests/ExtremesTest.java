import java.lang.reflect.InvocationTargetException;
import java.lang.reflect.Method;
import java.util.Arrays;
import java.util.Comparator;
import java.util.Random;

/** Every call of the face with numbers from all over: nothing is thrown but what the document names. */
public final class ExtremesTest {

  private static final int[] NUMBERS = {Integer.MIN_VALUE, Integer.MIN_VALUE + 1, -65536, -301, -300, -2, -1, 0, 0, 0, 1,
    1, 2, 2, 3, 4, 5, 7, 8, 9, 10, 11, 12, 20, 31, 32, 63, 99, 100, 112, 119, 120, 121, 255, 299, 300, 301, 999, 1000,
    4095, 9999, 10000, 65536, 1000000000, Integer.MAX_VALUE - 1, Integer.MAX_VALUE};

  public static void main(String[] args) throws Exception {
    Method[] face = MastWind.class.getDeclaredMethods();
    face = Arrays.stream(face).filter(m -> java.lang.reflect.Modifier.isPublic(m.getModifiers()))
        .sorted(Comparator.comparing(Method::getName)).toArray(Method[]::new);
    for (int seed = 0; seed < 360; seed++) {
      Random random = new Random(seed);
      MastWind x = seed % 3 == 0 ? new MastWind() : big();
      for (int i = 0; i < 300; i++) {
        ask(x, face[random.nextInt(face.length)], random);
      }
    }
    Due.finish();
  }

  private static MastWind big() {
    MastWind x = Due.mast("p0 9 1 9 9;p1 19 1 1 9;p2 29 1 1 9;p3 39 1 1 9;p0 49 1 1 9;p2 69 1 1 9;f90;",
        "r0 e 30 9 5;r1 w 30 9 5;r2 e 30 9 5;r3 w 30 9 5;r4 e 30 9 5;r5 w 30 9 5;r5 e 9 9 9;");
    Due.lay(x, 0, "s>9&(l<3|!h=4)");
    x.rule(0);
    return x;
  }

  private static void ask(MastWind x, Method m, Random random) throws Exception {
    Object[] told = new Object[m.getParameterCount()];
    for (int i = 0; i < told.length; i++) {
      boolean isTruth = m.getParameterTypes()[i] == boolean.class;
      told[i] = isTruth ? (Object) random.nextBoolean() : (Object) NUMBERS[random.nextInt(NUMBERS.length)];
    }
    boolean fits = true;
    try {
      m.invoke(x, told);
    } catch (InvocationTargetException e) {
      fits = Arrays.asList(m.getExceptionTypes()).contains(e.getCause().getClass())
          && e.getCause().getStackTrace()[0].getMethodName().equals(m.getName());
    }
    Due.is(m.getName() + Arrays.toString(told) + " throws what is not promised (1)", fits ? 0 : 1, 0);
  }
}
