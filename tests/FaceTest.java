import java.lang.reflect.Method;
import java.lang.reflect.Modifier;
import java.nio.charset.StandardCharsets;
import java.nio.file.Files;
import java.nio.file.Path;
import java.util.Set;
import java.util.TreeSet;

/** The public face, and what of LANGUAGE.md can be seen from outside or from the words of the file. */
public final class FaceTest {

  private static final String[] FACE = {
    "int text(int)", "int piece(int,int)", "int rope(int,int)", "int becomes(int,int)", "int tight(int,int)",
    "int ice(int,int)", "int wind(int,int)", "int share(int,int)", "long push(int)", "long rest(int)", "int stand()",
    "int stands(int)", "int pull(int)", "int loose()", "int gust(int)", "int gusts(int)", "int count(int)",
    "int tone(int)", "int shedding(int,int)", "int lock(int,int,int,int)", "int odds(int,int)", "int falls()",
    "int uneven()", "int after(int)", "long swings(int,int)", "int years(int,int)", "int fault(int)", "int rule(int)",
    "int tell(int,boolean)", "int breach(int,int)", "int climb(int)", "long order(int,int,int,int)",
    "int readBack(int,int,int,int)", "int offer(int,int,int)", "int cheapest(int,int,int)", "int image()",
    "int restore()", "int told(int)", "int keep(int,int,int)", "int row(int,int,int)", "int put(int,int,int)",
    "long element(int,int)", "int copy(int,int,int,int,int)", "int heft(int)", "int toss(int)"};

  private static final String[] NOT_IN_THE_PROGRAM = {"package ", "import ", "->", "::", " double ", " float ", "catch",
    "finally", "synchronized", "assert ", "System.out", "Exact(", "new Thread", "instanceof", "transient", "volatile"};

  public static void main(String[] args) throws Exception {
    members();
    throwsWhatIsTold();
    classesInside();
    words();
    Due.finish();
  }

  private static String signature(Method m) {
    StringBuilder text = new StringBuilder(m.getReturnType().getName() + " " + m.getName() + "(");
    for (Class<?> c : m.getParameterTypes()) {
      text.append(text.charAt(text.length() - 1) == '(' ? "" : ",").append(c.getName());
    }
    return text.append(')').toString();
  }

  private static void members() {
    Set<String> left = new TreeSet<>(Set.of(FACE));
    Set<String> names = new TreeSet<>();
    for (Method m : MastWind.class.getDeclaredMethods()) {
      if (Modifier.isPublic(m.getModifiers())) {
        names.add(m.getName());
        Due.is(signature(m) + " is of the face", left.remove(signature(m)) ? 1 : 0, 1);
      } else {
        Due.is(signature(m) + " is private", Modifier.isPrivate(m.getModifiers()) ? 1 : 0, 1);
      }
    }
    Due.is("calls that are missing: " + left, left.size(), 0);
    for (Method m : MastWind.class.getDeclaredMethods()) {
      boolean free = Modifier.isPublic(m.getModifiers()) || !names.contains(m.getName());
      Due.is(m.getName() + " has a name of its own", free ? 1 : 0, 1);
    }
    for (java.lang.reflect.Field f : MastWind.class.getDeclaredFields()) {
      Due.is("field " + f.getName() + " is private", Modifier.isPrivate(f.getModifiers()) ? 1 : 0, 1);
    }
    int classIs = MastWind.class.getModifiers();
    Due.is("the class is public and final", Modifier.isPublic(classIs) && Modifier.isFinal(classIs) ? 1 : 0, 1);
    Due.is("constructors", MastWind.class.getDeclaredConstructors().length, 1);
    Due.is("public ones", MastWind.class.getConstructors().length, 1);
  }

  /** Only three calls may throw, and each tells what. */
  private static void throwsWhatIsTold() {
    for (Method m : MastWind.class.getDeclaredMethods()) {
      StringBuilder told = new StringBuilder();
      for (Class<?> c : m.getExceptionTypes()) {
        told.append(c.getSimpleName()).append(' ');
      }
      String due = "";
      if (m.getName().equals("push") || m.getName().equals("rest")) {
        due = "IllegalArgumentException ";
      } else if (m.getName().equals("element")) {
        due = "IllegalArgumentException IllegalStateException ";
      }
      Due.is(m.getName() + " tells that it throws " + due, told.toString().equals(due) ? 1 : 0, 1);
    }
    Due.is("what the constructor tells", MastWind.class.getConstructors()[0].getExceptionTypes().length, 0);
  }

  private static void classesInside() {
    Class<?>[] inside = MastWind.class.getDeclaredClasses();
    Due.is("some twelve classes at the most", inside.length + 1 <= 12 ? 1 : inside.length + 1, 1);
    for (Class<?> c : inside) {
      boolean fits = Modifier.isStatic(c.getModifiers()) && !Modifier.isPublic(c.getModifiers())
          && !Modifier.isProtected(c.getModifiers());
      Due.is(c.getName() + " is static, and not public", fits ? 1 : 0, 1);
      for (java.lang.reflect.Field f : c.getDeclaredFields()) {
        boolean constant = Modifier.isFinal(f.getModifiers()) || !Modifier.isStatic(f.getModifiers());
        Due.is(c.getName() + "." + f.getName() + " is no state of all", constant ? 1 : 0, 1);
      }
    }
  }

  private static void words() throws Exception {
    String file = System.getProperty("source", "src/main/java/MastWind.java");
    String text = new String(Files.readAllBytes(Path.of(file)), StandardCharsets.UTF_8);
    for (String word : NOT_IN_THE_PROGRAM) {
      Due.is("place of '" + word + "' in the program", text.indexOf(word), -1);
    }
    for (int i = 0; i < text.length(); i++) {
      if (text.charAt(i) > 126) {
        Due.is("sign " + (int) text.charAt(i) + " at " + i, 0, 1);
      }
    }
  }
}
