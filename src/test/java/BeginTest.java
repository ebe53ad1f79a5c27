/** Promise 5, sentence by sentence. */
public final class BeginTest {
  private static final String PLACE = "Promise 5";

  public static void main(String[] args) {
    askerBegins();
    answererBegins();
    noSuchSide();
    hasBegun();
    noKeyOrRandomBytes();
    argumentFirst();
    Check.close();
  }

  private static void askerBegins() {
    Check.sentence(PLACE + ", Terms", "Side 0, when it begins, SENDS HELLO and waits for ANSWER");
    GreetDesk desk = Desks.told();
    Desks.feed(desk, 1, 2, 3);
    desk.begin(0);
    int[] begun = {2, 1, 0, 0, 39, 0, 0, 0, -1, -1, 0, 0};
    int[] fresh = {0, 0, 0, 0, 0, 0, 0, 0, -1, -1, 0, 0};
    Check.sameBytes("looks", Desks.looks(desk), Oracle.join(begun, fresh));
    Check.sameBytes("HELLO", Desks.sent(desk, 0, 0), Desks.oracle().hello);
    Check.same("the tape stays", desk.wipe(), 3);
  }

  private static void answererBegins() {
    Check.sentence(PLACE + ", Terms", "Side 1, when it begins, waits for HELLO");
    GreetDesk desk = Desks.told();
    Desks.feed(desk, 1, 2, 3);
    desk.begin(1);
    int[] fresh = {0, 0, 0, 0, 0, 0, 0, 0, -1, -1, 0, 0};
    int[] begun = {1, 1, 0, 0, 0, 0, 0, 0, -1, -1, 0, 0};
    Check.sameBytes("looks", Desks.looks(desk), Oracle.join(fresh, begun));
    Check.same("the tape stays", desk.wipe(), 3);
  }

  private static void noSuchSide() {
    Check.sentence(PLACE, "Throws IllegalArgumentException when there is none");
    for (int side : Desks.NOT_0_1) {
      Refused.argument(Desks::told, Act.begin(side));
    }
  }

  private static void hasBegun() {
    Check.sentence(PLACE, "IllegalStateException when it has begun");
    for (int side = 0; side < 2; side++) {
      int s = side;
      Refused.state(() -> Desks.begun(s), Act.begin(side));
      for (int steps = 0; steps < 5; steps++) {
        int n = steps;
        Refused.state(() -> Desks.after(n), Act.begin(side));
        Refused.state(() -> Desks.faulty(n == 0 ? 0 : 4, s), Act.begin(side));
      }
      Check.sameText("the other side", Act.begin(1 - side).outcome(Desks.begun(side)), "answers 0");
    }
  }

  private static void noKeyOrRandomBytes() {
    Check.sentence(PLACE, "or has no key or random bytes");
    for (int side = 0; side < 2; side++) {
      int s = side;
      Refused.state(GreetDesk::new, Act.begin(side));
      Refused.state(() -> knowing(s, 0), Act.begin(side));
      Refused.state(() -> knowing(s, 1), Act.begin(side));
      for (int last = 0; last < 2; last++) {
        GreetDesk desk = knowing(side, 1 - last);
        Desks.tell(desk, side, last, new int[32]);
        Check.sameText("with both, of 0s", Act.begin(side).outcome(desk), "answers 0");
        Check.same("begun", desk.look(side, 1), 1);
      }
    }
  }

  /** The other side knows what this one lacks. */
  private static GreetDesk knowing(int side, int what) {
    GreetDesk desk = new GreetDesk();
    Desks.tell(desk, side, what, new int[32]);
    Desks.tell(desk, 1 - side, 1 - what, new int[32]);
    return desk;
  }

  private static void argumentFirst() {
    Check.sentence(PLACE + ", Terms", "Of several exceptions the first one told is thrown");
    for (int side : Desks.NOT_0_1) {
      Refused.argument(GreetDesk::new, Act.begin(side));
      Refused.argument(Desks::begun, Act.begin(side));
    }
  }
}
