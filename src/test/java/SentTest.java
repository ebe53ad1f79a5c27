/** Promise 8. */
public final class SentTest {
  public static void main(String[] args) {
    GreetDesk desk = Desks.after(4);
    Oracle due = Desks.oracle();
    Check.sameBytes("by 0 at 0", Desks.sent(desk, 0, 0), due.hello);
    Check.sameBytes("by 1 at 0", Desks.sent(desk, 1, 0), due.answer);
    Check.sameBytes("by 1 at 1", Desks.sent(desk, 1, 1), Oracle.join(due.parameters, due.done1));
    Check.sameBytes("by 0 at 1", Desks.sent(desk, 0, 1), due.done0);

    GreetDesk fresh = Desks.begun();
    for (int k : new int[] {-1, 39, 335, 336, 340, Integer.MIN_VALUE, Integer.MAX_VALUE}) {
      Check.missing("k " + k, () -> fresh.sent(0, 0, k));
      Check.missing("k " + k, () -> fresh.sent(1, 0, k));
      Check.missing("k " + k, () -> fresh.sent(0, 1, k));
    }
    Check.missing("nothing sent", () -> fresh.sent(1, 1, 0));
    for (int bad : new int[] {-1, 2, Integer.MIN_VALUE, Integer.MAX_VALUE}) {
      Desks.unchanged("side " + bad, IllegalArgumentException.class, fresh, 0, () -> fresh.sent(bad, 0, -1));
      Desks.unchanged("level " + bad, IllegalArgumentException.class, fresh, 0, () -> fresh.sent(0, bad, -1));
    }
    largest();
    Check.close();
  }

  private static void largest() {
    int[] parameters0 = Desks.row(300, 5);
    int[] parameters1 = Desks.row(300, 6);
    GreetDesk desk = Desks.greeted(parameters0, parameters1);
    Oracle due = new Oracle(Desks.KEY, Desks.RANDOM0, parameters0, Desks.RANDOM1, parameters1);
    Check.same("HELLO's size, high", desk.sent(0, 0, 2), 1);
    Check.same("HELLO's size, low", desk.sent(0, 0, 3), 76);
    Check.same("its last byte", desk.sent(0, 0, 335), due.hello[335]);
    Check.missing("behind it", () -> desk.sent(0, 0, 336));
    Check.same("the last byte of DONE", desk.sent(1, 1, 339), due.done1[35]);
    Check.missing("behind it", () -> desk.sent(1, 1, 340));
    Check.sameBytes("DONE of 0", Desks.sent(desk, 0, 1), due.done0);
  }
}
