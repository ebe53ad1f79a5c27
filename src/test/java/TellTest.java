/** Promise 4. */
public final class TellTest {
  public static void main(String[] args) {
    readsTheTape();
    sizes();
    lastTellCounts();
    noSuchSideOrWhat();
    behindBegin();
    Check.close();
  }

  private static void readsTheTape() {
    for (int side = 0; side < 2; side++) {
      GreetDesk desk = new GreetDesk();
      Desks.tell(desk, side, 0, Desks.KEY);
      Check.same("tape behind key", desk.wipe(), 0);
      Desks.tell(desk, side, 1, Desks.RANDOM0);
      Check.same("tape behind random", desk.wipe(), 0);
      Desks.tell(desk, side, 2, Desks.PARAMETERS0);
      Check.same("tape behind parameters", desk.wipe(), 0);
      Desks.tell(desk, side, 3, Desks.NAME);
      Check.same("tape behind name", desk.wipe(), 0);
    }
  }

  private static void sizes() {
    for (int size : new int[] {0, 1, 19, 20, 21, 31, 32, 33, 64, 299, 300, 301, 2048}) {
      for (int what = 0; what < 4; what++) {
        boolean right = what < 2 ? size == 32 : what == 2 ? size <= 300 : size >= 1 && size <= 20;
        GreetDesk desk = new GreetDesk();
        Desks.feed(desk, Desks.row(size, 3));
        String call = "tell " + what + " with " + size + " bytes";
        if (right) {
          desk.tell(1, what);
          Check.same(call + ": the tape behind it", desk.wipe(), 0);
        } else {
          int w = what;
          Desks.unchanged(call, IllegalArgumentException.class, desk, size, () -> tell(desk, 1, w));
        }
      }
    }
  }

  private static void lastTellCounts() {
    GreetDesk desk = new GreetDesk();
    for (int side = 0; side < 2; side++) {
      Desks.tell(desk, side, 0, Desks.row(32, 1));
      Desks.tell(desk, side, 1, Desks.row(32, 2));
      Desks.tell(desk, side, 2, Desks.row(20, 3));
      Desks.tell(desk, side, 0, Desks.KEY);
      Desks.tell(desk, side, 1, side == 0 ? Desks.RANDOM0 : Desks.RANDOM1);
      Desks.tell(desk, side, 2, side == 0 ? Desks.PARAMETERS0 : Desks.PARAMETERS1);
      desk.begin(side);
    }
    for (int i = 0; i < 4; i++) {
      Check.same("step", Desks.step(desk, i), 0);
    }
    Oracle due = Desks.oracle();
    Check.sameBytes("HELLO", Desks.sent(desk, 0, 0), due.hello);
    Check.sameBytes("DONE of 0", Desks.sent(desk, 0, 1), due.done0);

    GreetDesk none = new GreetDesk();
    Desks.tell(none, 0, 0, Desks.KEY);
    Desks.tell(none, 0, 1, Desks.RANDOM0);
    Desks.tell(none, 0, 2, Desks.PARAMETERS0);
    none.tell(0, 2);
    none.begin(0);
    Check.sameBytes("HELLO", Desks.sent(none, 0, 0), Oracle.message(1, Desks.RANDOM0));
  }

  private static void noSuchSideOrWhat() {
    for (int bad : new int[] {-1, 2, 4, Integer.MIN_VALUE, Integer.MAX_VALUE}) {
      GreetDesk desk = new GreetDesk();
      Desks.feed(desk, Desks.KEY);
      Desks.unchanged("side " + bad, IllegalArgumentException.class, desk, 32, () -> tell(desk, bad, 0));
      if (bad != 2) {
        Desks.feed(desk, Desks.NAME);
        Desks.unchanged("what " + bad, IllegalArgumentException.class, desk, 8, () -> tell(desk, 0, bad));
      }
    }
  }

  private static void behindBegin() {
    GreetDesk desk = Desks.told();
    desk.begin(0);
    for (int w = 0; w < 3; w++) {
      int what = w;
      Desks.feed(desk, Desks.KEY);
      Desks.unchanged("tell begun " + what, IllegalStateException.class, desk, 32, () -> tell(desk, 0, what));
    }
    Desks.unchanged("argument first", IllegalArgumentException.class, desk, 0, () -> tell(desk, 0, 0));
    Desks.unchanged("no parameters", IllegalStateException.class, desk, 0, () -> tell(desk, 0, 2));
    Desks.tell(desk, 1, 0, Desks.KEY);
    Desks.tell(desk, 0, 3, 5);
    Check.sameBytes("first secret", Desks.secret(desk, 0, 0, 1), Oracle.first(new int[] {5}, 1));
    Desks.unchanged("name of none", IllegalArgumentException.class, desk, 0, () -> tell(desk, 0, 3));
    Check.same("a fault", Desks.take(desk, 0, 0, 77), 266);
    Desks.tell(desk, 0, 3, 6, 7);
    Check.sameBytes("first secret", Desks.secret(desk, 0, 0, 0), Oracle.first(new int[] {6, 7}, 0));
  }

  private static long tell(GreetDesk desk, int side, int what) {
    desk.tell(side, what);
    return 0;
  }
}
