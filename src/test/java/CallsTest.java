/** An object's 512 calls: what holds for the first ones holds for the last one. */
public final class CallsTest {
  private static final String WORDS = "An object is used for at most 512 calls after it has been made";

  public static void main(String[] args) {
    feeds();
    refusedFeeds();
    greetingAtTheEnd();
    readsAtTheEnd();
    faultAtTheEnd();
    Check.close();
  }

  private static void feeds() {
    Check.sentence("What it is", WORDS);
    GreetDesk desk = new GreetDesk();
    for (int i = 1; i <= 511; i++) {
      Check.same("feed", desk.feed(1, i), i);
    }
    Check.same("wipe as call 512", desk.wipe(), 511);
  }

  private static void refusedFeeds() {
    Check.sentence("What it is", WORDS + "; 2048 bytes and refused feeds");
    GreetDesk desk = new GreetDesk();
    for (int i = 1; i <= 256; i++) {
      Check.same("feed", desk.feed(8, i), 8 * i);
    }
    for (int i = 0; i < 255; i++) {
      Check.sameText("refused", Act.feed(1 + i % 8, i).outcome(desk), "throws java.lang.IllegalStateException");
    }
    Check.same("wipe as call 512", desk.wipe(), 2048);
  }

  private static void greetingAtTheEnd() {
    Check.sentence("What it is", WORDS + "; a greeting by the last ones");
    GreetDesk desk = Desks.told();
    looks(desk, 512 - 24 - 7, 0, 1, 0);
    desk.begin(0);
    desk.begin(1);
    for (int i = 0; i < 4; i++) {
      Check.same("step " + i, Desks.step(desk, i), 0);
    }
    Check.same("a byte of talk as call 512", desk.secret(1, 2, 0, 31), Desks.oracle().talk[0][31]);
  }

  private static void readsAtTheEnd() {
    Check.sentence("What it is", WORDS + "; reading to the last one");
    GreetDesk desk = Desks.after(4);
    int[] done = Desks.oracle().done0;
    for (int i = 31; i <= 512; i++) {
      Check.same("call " + i, desk.sent(0, 1, i % 36), done[i % 36]);
    }
  }

  private static void faultAtTheEnd() {
    Check.sentence("What it is", WORDS + "; a fault by the last one");
    GreetDesk desk = Desks.begun();
    looks(desk, 512 - 26 - 2, 1, 0, 1);
    desk.feed(1, 20);
    Check.same("take as call 512", desk.take(1, 0), 266);
  }

  private static void looks(GreetDesk desk, int times, int side, int what, int due) {
    for (int i = 0; i < times; i++) {
      Check.same("look", desk.look(side, what), due);
    }
  }
}
