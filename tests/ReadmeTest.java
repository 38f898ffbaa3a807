import java.io.File;
import java.net.URL;
import java.net.URLClassLoader;
import java.nio.file.Files;
import java.nio.file.Path;
import java.util.List;
import java.util.regex.Matcher;
import java.util.regex.Pattern;
import javax.tools.ToolProvider;

/** The Java on the page README.md, run line by line: each call answers, or throws, what stands behind its //. */
public final class ReadmeTest {

  private static final Pattern ANSWERED = Pattern.compile("\\s*(x\\..+\\));\\s*// (-?\\d+|Illegal\\w+)\\b.*");
  private static final int FEWEST = 30;

  public static void main(String[] args) throws Exception {
    File source = new File(System.getProperty("source", "src/main/java/MastWind.java")).getAbsoluteFile();
    File root = source.getParentFile().getParentFile().getParentFile().getParentFile();
    String program = programOf(Files.readAllLines(new File(root, "README.md").toPath()));
    Path work = Files.createTempDirectory("readme");
    Path file = work.resolve("ReadmeRun.java");
    Files.writeString(file, program);
    int bad = ToolProvider.getSystemJavaCompiler().run(null, null, null, "-cp", System.getProperty("java.class.path"),
        "-d", work.toString(), file.toString());
    Due.is("the Java on README.md compiles (0)", bad, 0);
    if (bad == 0) {
      try (URLClassLoader loader = new URLClassLoader(new URL[] {work.toUri().toURL()})) {
        loader.loadClass("ReadmeRun").getMethod("run").invoke(null);
      }
    }
    for (File made : work.toFile().listFiles()) {
      made.delete();
    }
    work.toFile().delete();
    Due.finish();
  }

  private static String programOf(List<String> lines) {
    StringBuilder text = new StringBuilder("public final class ReadmeRun {\n  public static void run() {\n");
    boolean inside = false;
    int answers = 0;
    for (String line : lines) {
      if (line.startsWith("```")) {
        inside = line.equals("```java");
        text.append(inside ? "{\n" : "}\n");
      } else if (inside) {
        Matcher m = ANSWERED.matcher(line);
        answers += m.matches() ? 1 : 0;
        text.append(m.matches() ? held(m.group(1), m.group(2)) : line).append('\n');
      }
    }
    Due.is("answers on README.md are " + FEWEST + " or more", answers >= FEWEST ? 1 : answers, 1);
    return text.append("  }\n}\n").toString();
  }

  private static String held(String call, String due) {
    // Due is of the unnamed package too, but not public: its calls are reached by Held, which is.
    if (due.startsWith("Illegal")) {
      return "ReadmeTest.Held.throwsIt(\"" + call + "\", () -> " + call + ", " + (due.contains("Argument") ? 1 : 2) + ");";
    }
    return "ReadmeTest.Held.is(\"" + call + "\", " + call + ", " + due + "L);";
  }

  /** What the page's own class, which another loader loads, may call. */
  public static final class Held {

    private Held() {
    }

    public interface Call {
      long run();
    }

    public static void is(String call, long got, long want) {
      Due.is("README.md: " + call, got, want);
    }

    public static void throwsIt(String call, Call run, int kind) {
      Due.throwsIt("README.md: " + call, run::run, kind);
    }
  }
}
