import java.util.Arrays;

/** Counts and prints what is not as due. */
final class Check {
  private static int wrong = 0;
  private static int done = 0;

  interface Call {
    long answer();
  }

  private Check() {}

  static void same(String what, long got, long due) {
    done++;
    if (got != due) {
      wrong++;
      System.out.println(what + " answered " + got + ", due is " + due);
    }
  }

  static void sameBytes(String what, int[] got, int[] due) {
    done++;
    if (!Arrays.equals(got, due)) {
      wrong++;
      System.out.println(what + " are " + Arrays.toString(got) + ", due are " + Arrays.toString(due));
    }
  }

  /** The exception's own class counts, not one above it. */
  static void raises(String what, Class<? extends RuntimeException> due, Call call) {
    done++;
    String got;
    try {
      got = "answered " + call.answer();
    } catch (RuntimeException e) {
      if (e.getClass() == due) {
        return;
      }
      got = "threw " + e.getClass().getName();
    }
    wrong++;
    System.out.println(what + " " + got + ", due is " + due.getName());
  }

  static void argument(String what, Call call) {
    raises(what, IllegalArgumentException.class, call);
  }

  static void state(String what, Call call) {
    raises(what, IllegalStateException.class, call);
  }

  static void missing(String what, Call call) {
    raises(what, java.util.NoSuchElementException.class, call);
  }

  static void close() {
    System.out.println(done + " answers looked at, " + wrong + " wrong");
    System.exit(wrong == 0 && done > 0 ? 0 : 1);
  }
}
