/** Promise 10. */
public final class TheirsTest {
  public static void main(String[] args) {
    for (int steps = 0; steps < 5; steps++) {
      GreetDesk desk = Desks.after(steps);
      if (steps >= 1) {
        Check.sameBytes("side 1", Desks.theirs(desk, 1), Desks.PARAMETERS0);
      } else {
        Check.missing("side 1", () -> desk.theirs(1, 0));
      }
      if (steps >= 3) {
        Check.sameBytes("side 0", Desks.theirs(desk, 0), Desks.PARAMETERS1);
      } else {
        Check.missing("side 0", () -> desk.theirs(0, 0));
      }
    }
    GreetDesk desk = Desks.after(4);
    for (int k : new int[] {-1, 5, 299, 300, Integer.MIN_VALUE, Integer.MAX_VALUE}) {
      Desks.unchanged("k " + k, java.util.NoSuchElementException.class, desk, 0, () -> desk.theirs(0, k));
    }
    Check.missing("behind the last", () -> desk.theirs(1, 3));
    for (int bad : new int[] {-1, 2, Integer.MIN_VALUE, Integer.MAX_VALUE}) {
      Check.argument("side " + bad, () -> desk.theirs(bad, -1));
    }
    early();
    Check.close();
  }

  private static void early() {
    GreetDesk desk = Desks.after(2);
    int[] message = Desks.oracle().parameters;
    Check.same("all but a byte", Desks.take(desk, 0, 1, java.util.Arrays.copyOf(message, message.length - 1)), 0);
    Check.missing("not yet", () -> desk.theirs(0, 0));
    Check.same("the last byte", Desks.take(desk, 0, 1, message[message.length - 1]), 0);
    Check.sameBytes("before DONE", Desks.theirs(desk, 0), Desks.PARAMETERS1);
    Check.same("a fault", Desks.take(desk, 0, 1, 21), 266);
    Check.sameBytes("behind a fault", Desks.theirs(desk, 0), Desks.PARAMETERS1);
  }
}
