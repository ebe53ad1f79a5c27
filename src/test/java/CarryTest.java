/** Promise 7, sentence by sentence. */
public final class CarryTest {
  private static final String PLACE = "Promise 7";
  private static final int[][] WAYS = {{0, 0}, {1, 0}, {1, 1}, {0, 1}};

  public static void main(String[] args) {
    nextBytes();
    allIfFewer();
    noneIfNone();
    toTheOtherSideAtThatLevel();
    carriedWhateverItAnswers();
    noSuchSideOrLevel();
    nBelowOne();
    otherNotBegun();
    otherHadAFault();
    argumentFirst();
    Check.close();
  }

  private static void nextBytes() {
    Check.sentence(PLACE, "The next n bytes that a side has sent at a level and that were not carried yet");
    for (int piece = 1; piece <= 50; piece++) {
      GreetDesk desk = Desks.begun();
      for (int[] way : WAYS) {
        int all = desk.look(way[0], 4 + way[1]);
        int carried = 0;
        while (carried < all) {
          Check.same("carry " + piece, desk.carry(way[0], way[1], piece), 0);
          carried = Math.min(all, carried + piece);
          Check.same("carried by pieces of " + piece, desk.look(way[0], 10 + way[1]), carried);
        }
      }
      Check.same("finished 0", desk.look(0, 2), 1);
      Check.same("finished 1", desk.look(1, 2), 1);
      Check.sameBytes("DONE", Desks.sent(desk, 0, 1), Desks.oracle().done0);
    }
    oneByteAndOneMore();
  }

  private static void oneByteAndOneMore() {
    GreetDesk desk = Desks.begun();
    Check.same("one byte", desk.carry(0, 0, 1), 0);
    Check.same("carried", desk.look(0, 10), 1);
    Check.same("waits", desk.look(1, 6), 1);
    Check.same("all but one", desk.carry(0, 0, 37), 0);
    Check.same("carried", desk.look(0, 10), 38);
    Check.same("still HELLO", desk.look(1, 0), 1);
    Check.same("the last one", desk.carry(0, 0, 1), 0);
    Check.same("carried", desk.look(0, 10), 39);
    Check.same("now DONE", desk.look(1, 0), 20);
  }

  private static void allIfFewer() {
    Check.sentence(PLACE, "(all, if there are fewer)");
    for (int before : new int[] {0, 1, 4, 20, 38}) {
      for (int n : new int[] {39 - before, 40 - before, 41, 999, Integer.MAX_VALUE - 1, Integer.MAX_VALUE}) {
        GreetDesk desk = Desks.begun();
        if (before > 0) {
          desk.carry(0, 0, before);
        }
        Check.same("carry " + n + " behind " + before, desk.carry(0, 0, n), 0);
        Check.same("carried", desk.look(0, 10), 39);
        Check.same("waits", desk.look(1, 6), 0);
        Check.same("then DONE", desk.look(1, 0), 20);
        Check.sameBytes("parameters", Desks.theirs(desk, 1), Desks.PARAMETERS0);
      }
    }
  }

  private static void noneIfNone() {
    Check.sentence(PLACE, "not carried yet (all, if there are fewer)");
    for (int n : new int[] {1, 2, 999, Integer.MAX_VALUE}) {
      for (int steps = 0; steps < 5; steps++) {
        GreetDesk desk = Desks.after(steps);
        int[] before = Desks.looks(desk);
        for (int[] way : WAYS) {
          if (desk.look(way[0], 4 + way[1]) == desk.look(way[0], 10 + way[1])) {
            Check.same("no bytes to carry", desk.carry(way[0], way[1], n), 0);
          }
        }
        Check.sameBytes("looks", Desks.looks(desk), before);
      }
      GreetDesk alone = Desks.begun(1);
      Check.same("from a side that has not begun", alone.carry(0, 0, n), 0);
      Check.same("from a side that has not begun", alone.carry(0, 1, n), 0);
      Check.same("carried", alone.look(0, 10), 0);
    }
  }

  private static void toTheOtherSideAtThatLevel() {
    Check.sentence(PLACE, "come to the other side at that level");
    GreetDesk desk = Desks.begun();
    Desks.feed(desk, 5, 6);
    Check.same("HELLO", desk.carry(0, 0, 39), 0);
    Check.sameBytes("to side 1", Desks.theirs(desk, 1), Desks.PARAMETERS0);
    Check.same("part of ANSWER", desk.carry(1, 0, 5), 0);
    Check.same("waits at level 0 of side 0", desk.look(0, 6), 5);
    Check.same("not at level 1", desk.look(0, 7), 0);
    Check.same("not of side 1", desk.look(1, 6), 0);
    Check.same("carried at level 0", desk.look(1, 10), 5);
    Check.same("not at level 1", desk.look(1, 11), 0);
    Check.same("ANSWER", desk.carry(1, 0, 31), 0);
    Check.same("part of PARAMETERS", desk.carry(1, 1, 3), 0);
    Check.same("waits at level 1", desk.look(0, 7), 3);
    Check.same("not at level 0", desk.look(0, 6), 0);
    Check.same("carried at level 1", desk.look(1, 11), 3);
    Check.same("the tape stays", desk.wipe(), 2);
    GreetDesk faulty = Desks.faulty(0, 0);
    Check.same("a fault of the sender does not hinder it", faulty.carry(0, 0, 39), 0);
    Check.same("ANSWER is sent", faulty.look(1, 4), 36);
  }

  private static void carriedWhateverItAnswers() {
    Check.sentence(PLACE, "(They are carried then, whatever it answers.)");
    for (int n : new int[] {1, 10, 44, 45, 46}) {
      GreetDesk early = Desks.after(1);
      Check.same("PARAMETERS before ANSWER", early.carry(1, 1, n), 266);
      Check.same("carried", early.look(1, 11), Math.min(n, 45));
    }
    GreetDesk keys = Desks.told(Desks.KEY, Desks.row(32, 12), Desks.PARAMETERS0, Desks.PARAMETERS1);
    keys.begin(0);
    keys.begin(1);
    Check.same("HELLO", keys.carry(0, 0, 999), 0);
    Check.same("ANSWER", keys.carry(1, 0, 999), 0);
    Check.same("other keys", keys.carry(1, 1, 44), 0);
    Check.same("other keys", keys.carry(1, 1, 1), 307);
    Check.same("carried", keys.look(1, 11), 45);
    GreetDesk finished = Desks.after(1);
    Check.same("ANSWER once", Desks.take(finished, 0, 0, Desks.oracle().answer), 0);
    Check.same("ANSWER again", finished.carry(1, 0, 20), 266);
    Check.same("carried", finished.look(1, 10), 20);
  }

  private static void noSuchSideOrLevel() {
    Check.sentence(PLACE, "Throws IllegalArgumentException when there is no such side or level");
    for (int bad : Desks.NOT_0_1) {
      for (int steps = 0; steps < 2; steps++) {
        int n = steps;
        Refused.argument(() -> Desks.after(n), Act.carry(bad, 0, 1), Act.carry(bad, 1, 1));
        Refused.argument(() -> Desks.after(n), Act.carry(0, bad, 1), Act.carry(1, bad, 1), Act.carry(bad, bad, 1));
      }
    }
  }

  private static void nBelowOne() {
    Check.sentence(PLACE, "or n is below 1");
    for (int n : new int[] {0, -1, -39, -256, Integer.MIN_VALUE, Integer.MIN_VALUE + 1}) {
      Refused.argument(Desks::begun, Act.carry(0, 0, n), Act.carry(1, 1, n));
      Refused.argument(() -> Desks.after(1), Act.carry(1, 0, n), Act.carry(1, 1, n));
      Refused.argument(() -> Desks.after(4), Act.carry(0, 0, n), Act.carry(0, 1, n));
    }
    Check.same("n of 1", Desks.begun().carry(0, 0, 1), 0);
  }

  private static void otherNotBegun() {
    Check.sentence(PLACE, "IllegalStateException when the other side has not begun");
    for (int side = 0; side < 2; side++) {
      int s = side;
      for (int level = 0; level < 2; level++) {
        Refused.state(() -> Desks.begun(s), Act.carry(side, level, 1), Act.carry(side, level, 999));
        Refused.state(Desks::told, Act.carry(side, level, 1));
        Refused.state(GreetDesk::new, Act.carry(side, level, 1));
        Check.same("the side itself need not", Desks.begun(side).carry(1 - side, level, 1), 0);
      }
    }
  }

  private static void otherHadAFault() {
    Check.sentence(PLACE, "the other side has not begun, or had a fault");
    for (int side = 0; side < 2; side++) {
      int other = 1 - side;
      for (int level = 0; level < 2; level++) {
        Refused.state(() -> Desks.faulty(0, other), Act.carry(side, level, 1), Act.carry(side, level, 999));
        Refused.state(() -> Desks.faulty(4, other), Act.carry(side, level, 1), Act.carry(side, level, 999));
      }
    }
    Refused.state(() -> Desks.faulty(1, 0), Act.carry(1, 0, 36), Act.carry(1, 1, 45));
  }

  private static void argumentFirst() {
    Check.sentence(PLACE + ", Terms", "Of several exceptions the first one told is thrown");
    Desks.Maker[] makers = {Desks::told, () -> Desks.faulty(0, 1)};
    for (Desks.Maker maker : makers) {
      Refused.argument(maker, Act.carry(0, 0, 0), Act.carry(0, 1, -1), Act.carry(0, 2, 1), Act.carry(0, -1, 1));
      Refused.argument(maker, Act.carry(2, 0, 1), Act.carry(-1, 0, 1), Act.carry(0, 0, Integer.MIN_VALUE));
    }
  }
}
