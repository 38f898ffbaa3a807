/** What the tests share: answers that are due, texts put into SHELVES, the end of a test. */
final class Due {

  interface Call {
    long run();
  }

  private static int wrong = 0;
  private static int held = 0;

  private Due() {
  }

  static void is(String call, long got, long want) {
    held++;
    if (got != want) {
      wrong++;
      System.out.println(call + " answered " + got + ", due is " + want);
    }
  }

  /** 1 for IllegalArgumentException, 2 for IllegalStateException, 3 for any other, 0 for none. */
  static int thrown(Call call) {
    try {
      call.run();
      return 0;
    } catch (IllegalArgumentException e) {
      return e.getClass() == IllegalArgumentException.class ? 1 : 3;
    } catch (IllegalStateException e) {
      return e.getClass() == IllegalStateException.class ? 2 : 3;
    } catch (RuntimeException e) {
      return 3;
    }
  }

  static void throwsIt(String call, Call run, int kind) {
    is(call + " throws (1 IllegalArgumentException, 2 IllegalStateException)", thrown(run), kind);
  }

  /** SHELF d gets the text as a ROW of bytes. */
  static void lay(MastWind x, int d, String text) {
    is("row(" + d + ", 0, " + text.length() + ")", x.row(d, 0, text.length()), 0);
    for (int i = 0; i < text.length(); i++) {
      is("put(" + d + ", " + i + ")", x.put(d, i, text.charAt(i)), 0);
    }
  }

  static void lay(MastWind x, int d, int sort, int... elements) {
    is("row(" + d + ", " + sort + ", " + elements.length + ")", x.row(d, sort, elements.length), 0);
    for (int i = 0; i < elements.length; i++) {
      is("put(" + d + ", " + i + ")", x.put(d, i, elements[i]), 0);
    }
  }

  /** The answer to the text, read from SHELF 7. */
  static int text(MastWind x, String text) {
    lay(x, 7, text);
    return x.text(7);
  }

  /** A mast of which the text has no FAULT. */
  static MastWind mast(String... texts) {
    MastWind x = new MastWind();
    for (String text : texts) {
      int answer = text(x, text);
      is("text " + text + " is read", answer > 0 ? 1 : answer, 1);
    }
    x.keep(7, 0, 0);
    return x;
  }

  static void finish() {
    if (held == 0) {
      wrong++;
      System.out.println("nothing was asked");
    }
    System.out.println(wrong == 0 ? held + " answers are as due" : wrong + " answers are not as due");
    if (wrong != 0) {
      System.exit(1);
    }
  }
}
