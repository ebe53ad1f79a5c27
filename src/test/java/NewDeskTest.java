/** Promise 1, sentence by sentence. */
public final class NewDeskTest {
  private static final String PLACE = "Promise 1";

  public static void main(String[] args) {
    withoutKey();
    withoutRandomBytes();
    withoutParameters();
    withoutFirstName();
    notBegun();
    Check.close();
  }

  private static void withoutKey() {
    Check.sentence(PLACE, "Both sides without key");
    for (int side = 0; side < 2; side++) {
      int s = side;
      Refused.state(() -> {
        GreetDesk desk = new GreetDesk();
        Desks.tell(desk, s, 1, Desks.RANDOM0);
        Desks.tell(desk, s, 2, Desks.PARAMETERS0);
        Desks.tell(desk, s, 3, Desks.NAME);
        return desk;
      }, Act.begin(side));
    }
  }

  private static void withoutRandomBytes() {
    Check.sentence(PLACE, "without key, random bytes");
    for (int side = 0; side < 2; side++) {
      int s = side;
      Refused.state(() -> {
        GreetDesk desk = new GreetDesk();
        Desks.tell(desk, s, 0, Desks.KEY);
        Desks.tell(desk, s, 2, Desks.PARAMETERS0);
        Desks.tell(desk, s, 3, Desks.NAME);
        return desk;
      }, Act.begin(side));
    }
  }

  private static void withoutParameters() {
    Check.sentence(PLACE, "parameters (none)");
    GreetDesk desk = new GreetDesk();
    for (int side = 0; side < 2; side++) {
      Desks.tell(desk, side, 0, Desks.KEY);
      Desks.tell(desk, side, 1, side == 0 ? Desks.RANDOM0 : Desks.RANDOM1);
      desk.begin(side);
    }
    for (int i = 0; i < 4; i++) {
      Check.same("step " + i, Desks.step(desk, i), 0);
    }
    Oracle due = new Oracle(Desks.KEY, Desks.RANDOM0, new int[0], Desks.RANDOM1, new int[0]);
    Check.sameBytes("HELLO", Desks.sent(desk, 0, 0), due.hello);
    Check.sameBytes("by side 1", Desks.sent(desk, 1, 1), Oracle.join(due.parameters, due.done1));
    Check.same("parameters of side 1", desk.look(0, 8), 0);
    Check.same("parameters of side 0", desk.look(1, 8), 0);
    Check.same("finished 0", desk.look(0, 2), 1);
    Check.same("finished 1", desk.look(1, 2), 1);
  }

  private static void withoutFirstName() {
    Check.sentence(PLACE, "or first name");
    for (int side = 0; side < 2; side++) {
      for (int of = 0; of < 2; of++) {
        Refused.missing(GreetDesk::new, Act.secret(side, 0, of, 0), Act.secret(side, 0, of, 31));
      }
      Check.same("highest level", new GreetDesk().look(side, 9), -1);
    }
  }

  private static void notBegun() {
    Check.sentence(PLACE, "not begun");
    int[] fresh = {0, 0, 0, 0, 0, 0, 0, 0, -1, -1, 0, 0};
    Check.sameBytes("looks", Desks.looks(new GreetDesk()), Oracle.join(fresh, fresh));
    for (int side = 0; side < 2; side++) {
      Refused.state(GreetDesk::new, Act.begin(side));
      Refused.missing(GreetDesk::new, Act.theirs(side, 0));
      for (int level = 0; level < 2; level++) {
        Refused.state(GreetDesk::new, Act.take(side, level), Act.carry(side, level, 1));
        Refused.missing(GreetDesk::new, Act.sent(side, level, 0));
        Refused.missing(GreetDesk::new, Act.secret(side, 1 + level, 0, 0), Act.secret(side, 1 + level, 1, 31));
      }
    }
  }
}
