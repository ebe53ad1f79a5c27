/** Promise 3, sentence by sentence. */
public final class WipeTest {
  private static final String PLACE = "Promise 3";

  public static void main(String[] args) {
    isEmpty();
    howManyItHad();
    theTapeAlone();
    Check.close();
  }

  private static void isEmpty() {
    Check.sentence(PLACE, "The tape is empty");
    GreetDesk desk = Desks.told();
    Desks.feed(desk, 9, 8, 7);
    desk.wipe();
    Check.same("wipe again", desk.wipe(), 0);
    Check.same("feed behind it", desk.feed(1, 6), 1);
    desk.tell(0, 2);
    desk.begin(0);
    Check.sameBytes("HELLO", Desks.sent(desk, 0, 0), Oracle.message(1, Oracle.join(Desks.RANDOM0, new int[] {6})));
    Refused.argument(() -> {
      GreetDesk wiped = new GreetDesk();
      Desks.feed(wiped, Desks.KEY);
      wiped.wipe();
      return wiped;
    }, Act.tell(0, 0), Act.tell(0, 3));
  }

  private static void howManyItHad() {
    Check.sentence(PLACE, "how many it had");
    Check.same("none", new GreetDesk().wipe(), 0);
    for (int size : new int[] {1, 7, 8, 9, 255, 256, 257, 2047, 2048}) {
      GreetDesk desk = new GreetDesk();
      Desks.feed(desk, new int[size]);
      Check.same("of " + size, desk.wipe(), size);
      Check.same("then", desk.wipe(), 0);
    }
  }

  private static void theTapeAlone() {
    Check.sentence(PLACE, "The tape is empty: how many it had");
    GreetDesk wiped = Desks.told();
    for (int i = 0; i < 4; i++) {
      Desks.feed(wiped, 1, 2);
      Check.same("wipe", wiped.wipe(), 2);
      if (i == 0) {
        wiped.begin(0);
        wiped.begin(1);
      }
      Check.same("step " + i, Desks.step(wiped, i), 0);
    }
    Check.sameBytes("looks", Desks.looks(wiped), Desks.looks(Desks.after(4)));
    Check.sameBytes("DONE of side 0", Desks.sent(wiped, 0, 1), Desks.oracle().done0);
    GreetDesk half = Desks.begun();
    half.carry(0, 0, 5);
    half.wipe();
    Check.same("bytes that wait are not on the tape", half.look(1, 6), 5);
  }
}
