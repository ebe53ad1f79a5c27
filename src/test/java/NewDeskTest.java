/** Promise 1. */
public final class NewDeskTest {
  public static void main(String[] args) {
    GreetDesk desk = new GreetDesk();
    int[] fresh = {0, 0, 0, 0, 0, 0, 0, 0, -1, -1, 0, 0};
    Check.sameBytes("looks", Desks.looks(desk), Oracle.join(fresh, fresh));
    Check.same("wipe", desk.wipe(), 0);
    for (int s = 0; s < 2; s++) {
      int side = s;
      Check.state("begin", () -> { desk.begin(side); return 0; });
      Check.state("take", () -> desk.take(side, 0));
      Check.state("carry", () -> desk.carry(side, 0, 1));
      Check.missing("theirs", () -> desk.theirs(side, 0));
      for (int l = 0; l < 3; l++) {
        int level = l;
        Check.missing("secret", () -> desk.secret(side, level, 0, 0));
        Check.missing("secret", () -> desk.secret(side, level, 1, 31));
      }
      Check.missing("sent", () -> desk.sent(side, 0, 0));
      Check.missing("sent", () -> desk.sent(side, 1, 0));
    }
    noParametersAreNone();
    desksAreApart();
    Check.close();
  }

  private static void noParametersAreNone() {
    GreetDesk desk = new GreetDesk();
    for (int side = 0; side < 2; side++) {
      Desks.tell(desk, side, 0, Desks.KEY);
      Desks.tell(desk, side, 1, side == 0 ? Desks.RANDOM0 : Desks.RANDOM1);
      desk.begin(side);
    }
    for (int i = 0; i < 4; i++) {
      Check.same("step", Desks.step(desk, i), 0);
    }
    Check.same("parameters of 1", desk.look(0, 8), 0);
    Check.same("parameters of 0", desk.look(1, 8), 0);
    Check.same("finished 0", desk.look(0, 2), 1);
    Check.same("finished 1", desk.look(1, 2), 1);
  }

  private static void desksAreApart() {
    GreetDesk one = Desks.after(4);
    GreetDesk other = new GreetDesk();
    Check.same("other begun", other.look(0, 1), 0);
    Desks.feed(other, 1, 2, 3);
    Check.same("tape of one", one.wipe(), 0);
    Check.same("tape of other", other.wipe(), 3);
  }
}
