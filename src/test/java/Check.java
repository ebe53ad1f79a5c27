import java.util.Arrays;
import java.util.List;

/** Counts and prints what is not as due, with the document's sentence that it breaks. */
final class Check {
  private static final int MOST_SECONDS = 300;

  private static int wrong = 0;
  private static int done = 0;
  private static int sentences = 0;
  private static int doneBefore = 0;
  private static String sentence = "";

  static {
    endInTime();
  }

  private Check() {}

  /** What is looked at from here on belongs to this sentence of the document. */
  static void sentence(String place, String words) {
    endSentence();
    sentences++;
    doneBefore = done;
    sentence = place + ", \"" + words + "\"";
  }

  static void same(String what, long got, long due) {
    done++;
    if (got != due) {
      report(what + " answered " + got + ", due is " + due);
    }
  }

  static void sameBytes(String what, int[] got, int[] due) {
    done++;
    if (!Arrays.equals(got, due)) {
      report(what + " are " + Arrays.toString(got) + ", due are " + Arrays.toString(due));
    }
  }

  static void sameText(String what, String got, String due) {
    done++;
    if (!got.equals(due)) {
      report(what + " " + got + ", due is: " + due);
    }
  }

  /** Prints the first row that is another one. */
  static void sameRows(String what, List<String> got, List<String> due) {
    done++;
    for (int i = 0; i < due.size(); i++) {
      if (i >= got.size() || !got.get(i).equals(due.get(i))) {
        report(what + ": " + (i < got.size() ? got.get(i) : "nothing") + ", due is: " + due.get(i));
        return;
      }
    }
  }

  static void close() {
    endSentence();
    System.out.println(sentences + " sentences, " + done + " answers looked at, " + wrong + " wrong");
    System.exit(wrong == 0 && done > 0 ? 0 : 1);
  }

  private static void endSentence() {
    if (sentences > 0 && done == doneBefore) {
      report("nothing was looked at");
    }
  }

  private static void report(String text) {
    wrong++;
    System.out.println((sentence.isEmpty() ? "" : sentence + ": ") + text);
  }

  /** A call that does not end would hold up all other tests. */
  private static void endInTime() {
    Thread watch = new Thread(() -> {
      try {
        Thread.sleep(MOST_SECONDS * 1000L);
      } catch (InterruptedException e) {
        return;
      }
      System.out.println(sentence + ": not at its end behind " + MOST_SECONDS + " seconds");
      Runtime.getRuntime().halt(1);
    });
    watch.setDaemon(true);
    watch.start();
  }
}
