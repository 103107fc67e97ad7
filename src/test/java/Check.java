import java.util.NoSuchElementException;

/** What the tests share: it compares answers with those that are due, and counts the wrong ones. */
final class Check {
  interface Call {
    Object answer();
  }

  static final Class<?> INDEX = IndexOutOfBoundsException.class;
  static final Class<?> ARGUMENT = IllegalArgumentException.class;
  static final Class<?> STATE = IllegalStateException.class;
  static final Class<?> UNSUPPORTED = UnsupportedOperationException.class;
  static final Class<?> NO_ELEMENT = NoSuchElementException.class;
  static final Class<?> ARITHMETIC = ArithmeticException.class;

  private static int wrong = 0;
  private static String about = "";

  private Check() {
  }

  static void due(String what, Object got, Object want) {
    if (!got.equals(want)) {
      fail(what + " answered " + got + ", due is " + want);
    }
  }

  static void dueThrow(String what, Class<?> want, Call call) {
    Object got = outcome(call);
    String due = "throws." + want.getSimpleName();
    if (!got.equals(due)) {
      fail(what + " answered " + got + ", due is " + due);
    }
  }

  /** The answer of a call, or the name of what it throws. */
  static Object outcome(Call call) {
    try {
      return call.answer();
    } catch (RuntimeException e) {
      return "throws." + e.getClass().getSimpleName();
    }
  }

  /** The call throws, and nothing that can be seen from outside is changed by it. */
  static void dueThrowUnchanged(SlidePark park, String what, Class<?> want, Call call) {
    String before = View.of(park);
    int undoCount = park.undoCount();
    dueThrow(what, want, call);
    due("the state after " + what, View.of(park), before);
    due("undoCount after " + what, park.undoCount(), undoCount);
  }

  /** What the next wrong answers are told to belong to. */
  static void about(String test) {
    about = test;
  }

  static void fail(String message) {
    wrong++;
    if (wrong <= 50) {
      System.out.println(about + message);
    }
  }

  static void feed(SlidePark park, String text) {
    for (int i = 0; i < text.length(); i++) {
      due("feed of " + text, park.feed(text.charAt(i)), i + 1);
    }
  }

  static int run(SlidePark park, String text) {
    feed(park, text);
    return park.runCommands();
  }

  static String written(SlidePark park, int slide) {
    int length = park.writeSlide(slide);
    StringBuilder output = new StringBuilder();
    for (int i = 0; i < length; i++) {
      output.append(park.outputChar(i));
    }
    return output.toString();
  }

  static void close(String test) {
    System.out.println(test + (wrong == 0 ? ": all answers are as due" : ": " + wrong + " wrong"));
    System.exit(wrong == 0 ? 0 : 1);
  }
}
