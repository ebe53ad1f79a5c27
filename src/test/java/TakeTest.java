/** Promise 6, sentence by sentence; what comes of the bytes is in GreetingTest and FaultTest. */
public final class TakeTest {
  private static final String PLACE = "Promise 6";

  public static void main(String[] args) {
    comesToASideAtALevel();
    tapeIsRead();
    emptyTape();
    zeroOrTheFault();
    noSuchSideOrLevel();
    notBegun();
    hadAFault();
    argumentFirst();
    Check.close();
  }

  private static void comesToASideAtALevel() {
    Check.sentence(PLACE, "comes to a side at a level");
    Oracle due = Desks.oracle();
    GreetDesk desk = Desks.begun();
    Check.same("HELLO", Desks.take(desk, 1, 0, due.hello), 0);
    Check.sameBytes("ANSWER", Desks.sent(desk, 1, 0), due.answer);
    Check.sameBytes("rest", Desks.sent(desk, 1, 1), Oracle.join(due.parameters, due.done1));
    Check.same("ANSWER", Desks.take(desk, 0, 0, due.answer), 0);
    Check.same("rest", Desks.take(desk, 0, 1, Oracle.join(due.parameters, due.done1)), 0);
    Check.sameBytes("DONE", Desks.sent(desk, 0, 1), due.done0);
    Check.same("DONE", Desks.take(desk, 1, 1, due.done0), 0);
    int[] side0 = {0, 1, 1, 0, 39, 36, 0, 0, 5, 2, 0, 0};
    int[] side1 = {0, 1, 1, 0, 36, 45, 0, 0, 3, 2, 0, 0};
    Check.sameBytes("looks", Desks.looks(desk), Oracle.join(side0, side1));
  }

  private static void tapeIsRead() {
    Check.sentence(PLACE, "The tape, which is read");
    GreetDesk desk = Desks.begun();
    Check.same("part of HELLO", Desks.take(desk, 1, 0, 1, 0, 0), 0);
    Check.same("tape", desk.wipe(), 0);
    Check.same("a wrong size, and bytes behind it", Desks.take(desk, 1, 0, 31, 1, 2, 3), 306);
    Check.same("tape behind a fault", desk.wipe(), 0);
    Check.same("a wrong type, and bytes behind it", Desks.take(desk, 0, 1, 8, 0, 0, 0), 266);
    Check.same("tape behind a fault", desk.wipe(), 0);
    GreetDesk full = Desks.begun(1);
    Check.same("a full tape", Desks.take(full, 1, 0, Oracle.message(1, Desks.row(2044, 0))), 306);
    Check.same("tape", full.wipe(), 0);
    Check.same("feed", full.feed(8, 0), 8);
  }

  private static void emptyTape() {
    Check.sentence(PLACE + ", Terms", "Bytes come at a level in order, in any pieces");
    for (int steps = 0; steps < 5; steps++) {
      GreetDesk desk = Desks.after(steps);
      int[] before = Desks.looks(desk);
      for (int side = 0; side < 2; side++) {
        Check.same("an empty piece", desk.take(side, 0), 0);
        Check.same("an empty piece", desk.take(side, 1), 0);
      }
      Check.sameBytes("looks", Desks.looks(desk), before);
    }
    GreetDesk half = Desks.begun();
    half.carry(0, 0, 20);
    Check.same("an empty piece between", half.take(1, 0), 0);
    Check.same("an empty piece at the other level", half.take(1, 1), 0);
    Check.same("the rest", half.carry(0, 0, 19), 0);
    Check.same("HELLO is whole", half.look(1, 0), 20);
  }

  private static void zeroOrTheFault() {
    Check.sentence(PLACE, "0, or the fault");
    GreetDesk desk = Desks.begun();
    Check.same("0", Desks.take(desk, 1, 0, 1, 0, 0), 0);
    Check.same("306", Desks.take(desk, 1, 0, 31), 306);
    Check.same("look", desk.look(1, 3), 306);
    Check.same("the other side goes on", Desks.take(desk, 0, 0, Desks.oracle().answer), 0);
    Check.same("266", Desks.take(desk, 0, 1, 7), 266);
    Check.same("look", desk.look(0, 3), 266);
    GreetDesk proof = Desks.after(1);
    Check.same("307", Desks.take(proof, 1, 1, Oracle.message(20, new int[32])), 307);
    Check.same("look", proof.look(1, 3), 307);
  }

  private static void noSuchSideOrLevel() {
    Check.sentence(PLACE, "Throws IllegalArgumentException when there is no such side or level (0, 1)");
    for (int bad : Desks.NOT_0_1) {
      Refused.argument(Desks.with(Desks::begun, 1), Act.take(bad, 0), Act.take(bad, 1));
      Refused.argument(Desks.with(Desks::begun, 1), Act.take(0, bad), Act.take(1, bad), Act.take(bad, bad));
      Refused.argument(Desks::begun, Act.take(bad, 0), Act.take(1, bad));
    }
  }

  private static void notBegun() {
    Check.sentence(PLACE, "IllegalStateException when it has not begun");
    for (int level = 0; level < 2; level++) {
      for (int side = 0; side < 2; side++) {
        int other = 1 - side;
        Refused.state(Desks.with(Desks::told, 1, 2), Act.take(side, level));
        Refused.state(Desks.with(() -> Desks.begun(other), 1, 2), Act.take(side, level));
        Refused.state(GreetDesk::new, Act.take(side, level));
      }
    }
  }

  private static void hadAFault() {
    Check.sentence(PLACE, "or had a fault");
    for (int side = 0; side < 2; side++) {
      int s = side;
      for (int level = 0; level < 2; level++) {
        Refused.state(Desks.with(() -> Desks.faulty(0, s), 1, 2, 3), Act.take(side, level));
        Refused.state(() -> Desks.faulty(0, s), Act.take(side, level));
        Refused.state(Desks.with(() -> Desks.faulty(4, s), 20), Act.take(side, level));
        Refused.state(Desks.with(() -> wrongSize(s), 1, 2), Act.take(side, level));
        Refused.state(Desks.with(() -> wrongProof(s), 20), Act.take(side, level));
      }
      Check.same("the other side has none", Desks.faulty(0, side).take(1 - side, 0), 0);
    }
  }

  private static GreetDesk wrongSize(int side) {
    GreetDesk desk = Desks.begun();
    Check.same("a wrong size", Desks.take(desk, side, 0, 2 - side, 0, 0, 31), 306);
    return desk;
  }

  private static GreetDesk wrongProof(int side) {
    GreetDesk desk = Desks.after(2);
    if (side == 0) {
      Check.same("PARAMETERS", desk.carry(1, 1, 9), 0);
    }
    Check.same("a wrong proof", Desks.take(desk, side, 1, Oracle.message(20, new int[32])), 307);
    return desk;
  }

  private static void argumentFirst() {
    Check.sentence(PLACE + ", Terms", "Of several exceptions the first one told is thrown");
    for (int bad : Desks.NOT_0_1) {
      Refused.argument(Desks.with(Desks::told, 1), Act.take(0, bad), Act.take(1, bad), Act.take(bad, 0));
      Refused.argument(Desks.with(() -> Desks.faulty(0, 0), 1), Act.take(0, bad), Act.take(bad, 1));
      Refused.argument(Desks.with(() -> Desks.faulty(0, 1), 1), Act.take(1, bad), Act.take(bad, 1));
    }
  }
}
