/** Promise 5. */
public final class BeginTest {
  public static void main(String[] args) {
    asks();
    answers();
    wrongInputs();
    Check.close();
  }

  private static void asks() {
    GreetDesk desk = Desks.told();
    desk.begin(0);
    int[] begun = {2, 1, 0, 0, 39, 0, 0, 0, -1, -1, 0, 0};
    int[] fresh = {0, 0, 0, 0, 0, 0, 0, 0, -1, -1, 0, 0};
    Check.sameBytes("looks", Desks.looks(desk), Oracle.join(begun, fresh));
    Check.sameBytes("HELLO", Desks.sent(desk, 0, 0), Desks.oracle().hello);
    Desks.unchanged("begin again", IllegalStateException.class, desk, 0, () -> begin(desk, 0));
  }

  private static void answers() {
    GreetDesk desk = Desks.told();
    Desks.feed(desk, 1, 2, 3);
    desk.begin(1);
    int[] fresh = {0, 0, 0, 0, 0, 0, 0, 0, -1, -1, 0, 0};
    int[] begun = {1, 1, 0, 0, 0, 0, 0, 0, -1, -1, 0, 0};
    Check.sameBytes("looks", Desks.looks(desk), Oracle.join(fresh, begun));
    Desks.unchanged("begin again", IllegalStateException.class, desk, 3, () -> begin(desk, 1));
    Check.same("a fault", Desks.take(desk, 1, 1, 1), 266);
    Desks.unchanged("begin with a fault", IllegalStateException.class, desk, 0, () -> begin(desk, 1));
  }

  private static void wrongInputs() {
    GreetDesk desk = new GreetDesk();
    for (int side : new int[] {-1, 2, Integer.MIN_VALUE, Integer.MAX_VALUE}) {
      Desks.unchanged("side " + side, IllegalArgumentException.class, desk, 0, () -> begin(desk, side));
    }
    for (int s = 0; s < 2; s++) {
      int side = s;
      Desks.unchanged("nothing told", IllegalStateException.class, desk, 0, () -> begin(desk, side));
      GreetDesk keyOnly = new GreetDesk();
      Desks.tell(keyOnly, side, 0, Desks.KEY);
      Desks.tell(keyOnly, 1 - side, 1, Desks.KEY);
      Desks.unchanged("key alone", IllegalStateException.class, keyOnly, 0, () -> begin(keyOnly, side));
      Desks.tell(keyOnly, side, 1, new int[32]);
      keyOnly.begin(side);
      GreetDesk randomOnly = new GreetDesk();
      Desks.tell(randomOnly, side, 1, Desks.KEY);
      Desks.unchanged("random alone", IllegalStateException.class, randomOnly, 0, () -> begin(randomOnly, side));
      Desks.tell(randomOnly, side, 0, new int[32]);
      randomOnly.begin(side);
      Check.same("begun", randomOnly.look(side, 1), 1);
    }
  }

  private static long begin(GreetDesk desk, int side) {
    desk.begin(side);
    return 0;
  }
}
