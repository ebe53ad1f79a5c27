import java.util.Arrays;

/** Promise 11, sentence by sentence. */
public final class LookTest {
  private static final String PLACE = "Promise 11";
  /** All looks at both sides behind 0 .. 4 steps of a greeting. */
  private static final int[][] STEPS = {
    {2, 1, 0, 0, 39, 0, 0, 0, -1, -1, 0, 0, 1, 1, 0, 0, 0, 0, 0, 0, -1, -1, 0, 0},
    {2, 1, 0, 0, 39, 0, 0, 0, -1, -1, 39, 0, 20, 1, 0, 0, 36, 45, 0, 0, 3, 2, 0, 0},
    {8, 1, 0, 0, 39, 0, 0, 0, -1, 1, 39, 0, 20, 1, 0, 0, 36, 45, 0, 0, 3, 2, 36, 0},
    {0, 1, 1, 0, 39, 36, 0, 0, 5, 2, 39, 0, 20, 1, 0, 0, 36, 45, 0, 0, 3, 2, 36, 45},
    {0, 1, 1, 0, 39, 36, 0, 0, 5, 2, 39, 36, 0, 1, 1, 0, 36, 45, 0, 0, 3, 2, 36, 45},
  };

  public static void main(String[] args) {
    ofASide();
    whatItWaitsFor();
    whetherItHasBegun();
    whetherItIsFinished();
    itsFault();
    bytesSent();
    bytesThatWait();
    bytesOfTheOthersParameters();
    highestLevel();
    bytesCarried();
    noSuchSide();
    anotherWhat();
    argumentFirst();
    Check.close();
  }

  private static void ofASide() {
    Check.sentence(PLACE, "Of a side");
    for (int steps = 0; steps < 5; steps++) {
      Check.sameBytes("behind " + steps, Desks.looks(Desks.after(steps)), STEPS[steps]);
    }
  }

  private static void whatItWaitsFor() {
    Check.sentence(PLACE, "0 what it waits for (its type; 0: nothing, or not begun)");
    for (int side = 0; side < 2; side++) {
      Check.same("new", new GreetDesk().look(side, 0), 0);
      Check.same("told", Desks.told().look(side, 0), 0);
      Check.same("the other has begun", Desks.begun(1 - side).look(side, 0), 0);
      Check.same("begun", Desks.begun(side).look(side, 0), 2 - side);
      Check.same("finished", Desks.after(4).look(side, 0), 0);
      Check.same("had a fault", Desks.faulty(0, side).look(side, 0), 0);
    }
    GreetDesk desk = Desks.begun();
    desk.carry(0, 0, 38);
    Check.same("all but a byte of HELLO", desk.look(1, 0), 1);
    desk.carry(0, 0, 1);
    Check.same("HELLO", desk.look(1, 0), 20);
    desk.carry(1, 0, 35);
    Check.same("all but a byte of ANSWER", desk.look(0, 0), 2);
    desk.carry(1, 0, 1);
    Check.same("ANSWER", desk.look(0, 0), 8);
    desk.carry(1, 1, 8);
    Check.same("all but a byte of PARAMETERS", desk.look(0, 0), 8);
    desk.carry(1, 1, 1);
    Check.same("PARAMETERS", desk.look(0, 0), 20);
    desk.carry(1, 1, 35);
    Check.same("all but a byte of DONE", desk.look(0, 0), 20);
    desk.carry(1, 1, 1);
    Check.same("DONE", desk.look(0, 0), 0);
  }

  private static void whetherItHasBegun() {
    Check.sentence(PLACE, "1 whether it has begun");
    for (int side = 0; side < 2; side++) {
      Check.same("new", new GreetDesk().look(side, 1), 0);
      Check.same("told", Desks.told().look(side, 1), 0);
      Check.same("begun", Desks.begun(side).look(side, 1), 1);
      Check.same("the other has begun", Desks.begun(1 - side).look(side, 1), 0);
      Check.same("finished", Desks.after(4).look(side, 1), 1);
      Check.same("had a fault", Desks.faulty(0, side).look(side, 1), 1);
    }
  }

  private static void whetherItIsFinished() {
    Check.sentence(PLACE, "2 whether it is finished");
    GreetDesk desk = Desks.after(2);
    desk.carry(1, 1, 44);
    Check.same("side 0, a byte before", desk.look(0, 2), 0);
    desk.carry(1, 1, 1);
    Check.same("side 0", desk.look(0, 2), 1);
    Check.same("side 1 not yet", desk.look(1, 2), 0);
    desk.carry(0, 1, 35);
    Check.same("side 1, a byte before", desk.look(1, 2), 0);
    desk.carry(0, 1, 1);
    Check.same("side 1", desk.look(1, 2), 1);
    for (int side = 0; side < 2; side++) {
      Check.same("a fault before the end", Desks.faulty(1, side).look(side, 2), 0);
      Check.same("a fault behind the end", Desks.faulty(4, side).look(side, 2), 1);
    }
  }

  private static void itsFault() {
    Check.sentence(PLACE, "3 its fault");
    for (int side = 0; side < 2; side++) {
      Check.same("none", Desks.after(4).look(side, 3), 0);
      Check.same("266", Desks.faulty(0, side).look(side, 3), 266);
      Check.same("the other's", Desks.faulty(0, side).look(1 - side, 3), 0);
    }
    GreetDesk size = Desks.begun();
    Desks.take(size, 0, 0, 2, 0, 0, 33);
    Check.same("306", size.look(0, 3), 306);
    GreetDesk proof = Desks.after(1);
    Desks.take(proof, 1, 1, Oracle.message(20, new int[32]));
    Check.same("307", proof.look(1, 3), 307);
  }

  private static void bytesSent() {
    Check.sentence(PLACE, "4, 5 bytes sent at level 0, 1");
    for (int size : new int[] {0, 1, 299, 300}) {
      GreetDesk desk = Desks.greeted(Desks.row(size, 0), Desks.row(size, 1));
      Check.same("HELLO", desk.look(0, 4), 36 + size);
      Check.same("DONE", desk.look(0, 5), 36);
      Check.same("ANSWER", desk.look(1, 4), 36);
      Check.same("PARAMETERS and DONE", desk.look(1, 5), 40 + size);
    }
    Check.same("nothing yet", Desks.told().look(0, 4), 0);
    Check.same("behind a fault", Desks.faulty(0, 0).look(0, 4), 39);
  }

  private static void bytesThatWait() {
    Check.sentence(PLACE, "6, 7 bytes that wait there");
    GreetDesk desk = Desks.begun();
    for (int i = 1; i <= 39; i++) {
      desk.carry(0, 0, 1);
      Check.same("of HELLO", desk.look(1, 6), i == 39 ? 0 : i);
      Check.same("at the other level", desk.look(1, 7), 0);
      Check.same("of the other side", desk.look(0, 6) + desk.look(0, 7), 0);
    }
    desk = Desks.after(2);
    for (int i = 1; i <= 45; i++) {
      desk.carry(1, 1, 1);
      Check.same("of PARAMETERS and DONE", desk.look(0, 7), i < 9 ? i : i == 45 ? 0 : i - 9);
      Check.same("at the other level", desk.look(0, 6), 0);
    }
    GreetDesk most = Desks.told(Desks.KEY, Desks.KEY, Desks.row(300, 0), Desks.PARAMETERS1);
    most.begin(0);
    most.begin(1);
    most.carry(0, 0, 335);
    Check.same("all but a byte of the largest HELLO", most.look(1, 6), 335);
    most.carry(0, 0, 1);
    Check.same("the whole", most.look(1, 6), 0);
  }

  private static void bytesOfTheOthersParameters() {
    Check.sentence(PLACE, "8 bytes of the other's parameters (-1: not known)");
    for (int size : new int[] {0, 1, 299, 300}) {
      Check.same("of side 0", Desks.greeted(Desks.row(size, 0), new int[0]).look(1, 8), size);
      Check.same("of side 1", Desks.greeted(new int[0], Desks.row(size, 0)).look(0, 8), size);
    }
    GreetDesk none = Desks.told(Desks.KEY, Desks.KEY, new int[0], new int[0]);
    none.begin(0);
    none.begin(1);
    Check.same("not known", none.look(1, 8), -1);
    none.carry(0, 0, 35);
    Check.same("a byte before", none.look(1, 8), -1);
    none.carry(0, 0, 1);
    Check.same("none, and that is known", none.look(1, 8), 0);
    none.carry(1, 0, 36);
    Check.same("ANSWER has none", none.look(0, 8), -1);
    none.carry(1, 1, 3);
    Check.same("a byte before", none.look(0, 8), -1);
    none.carry(1, 1, 1);
    Check.same("none, and that is known", none.look(0, 8), 0);
    Check.same("not known behind a fault", Desks.faulty(0, 1).look(1, 8), -1);
    Check.same("known behind a fault", Desks.faulty(1, 1).look(1, 8), 3);
  }

  private static void highestLevel() {
    Check.sentence(PLACE, "9 the highest level with secrets (-1: none)");
    GreetDesk desk = Desks.begun();
    Check.same("none", desk.look(0, 9), -1);
    Desks.tell(desk, 0, 3, Desks.NAME);
    Check.same("first", desk.look(0, 9), 0);
    Check.same("none", desk.look(1, 9), -1);
    desk.carry(0, 0, 39);
    Check.same("talk, without first", desk.look(1, 9), 2);
    desk.carry(1, 0, 35);
    Check.same("a byte before greet", desk.look(0, 9), 0);
    desk.carry(1, 0, 1);
    Check.same("greet", desk.look(0, 9), 1);
    Desks.tell(desk, 0, 3, Desks.NAME);
    Check.same("greet, with a new name", desk.look(0, 9), 1);
    desk.carry(1, 1, 44);
    Check.same("a byte before talk", desk.look(0, 9), 1);
    desk.carry(1, 1, 1);
    Check.same("talk", desk.look(0, 9), 2);
    Check.same("greet, without first", Desks.after(2).look(0, 9), 1);
    Check.same("a fault before", Desks.faulty(0, 0).look(0, 9), -1);
    Check.same("a fault behind", Desks.faulty(4, 0).look(0, 9), 2);
  }

  private static void bytesCarried() {
    Check.sentence(PLACE, "10, 11 bytes carried from it at level 0, 1");
    GreetDesk desk = Desks.begun();
    Check.same("none", desk.look(0, 10), 0);
    desk.carry(0, 0, 1);
    Check.same("one", desk.look(0, 10), 1);
    Check.same("at level 1", desk.look(0, 11), 0);
    Check.same("from side 1", desk.look(1, 10), 0);
    desk.carry(0, 0, 38);
    Check.same("all", desk.look(0, 10), 39);
    Desks.take(desk, 0, 0, Desks.oracle().answer);
    Check.same("those of take were not carried", desk.look(1, 10), 0);
    desk.carry(1, 1, 45);
    Check.same("at level 1", desk.look(1, 11), 45);
    desk.carry(0, 1, 36);
    Check.same("at level 1", desk.look(0, 11), 36);
    Check.same("level 0 stays", desk.look(0, 10), 39);
  }

  private static void noSuchSide() {
    Check.sentence(PLACE, "Throws IllegalArgumentException when there is no such side");
    for (int bad : Desks.NOT_0_1) {
      Refused.argument(() -> Desks.after(3), Act.look(bad, 0), Act.look(bad, 4), Act.look(bad, 11));
    }
  }

  private static void anotherWhat() {
    Check.sentence(PLACE, "NoSuchElementException for another what");
    for (int side = 0; side < 2; side++) {
      int s = side;
      Check.same("the first", Desks.after(3).look(side, 0), STEPS[3][12 * side]);
      Check.same("the last", Desks.after(4).look(side, 11), STEPS[4][12 * side + 11]);
      for (int bad : new int[] {-1, 12, 13, -12, 256, Integer.MIN_VALUE, Integer.MAX_VALUE}) {
        Refused.missing(() -> Desks.after(3), Act.look(side, bad));
        Refused.missing(GreetDesk::new, Act.look(side, bad));
        Refused.missing(() -> Desks.faulty(0, s), Act.look(side, bad));
      }
    }
    Check.sameBytes("a fault behind the end", Desks.looks(Desks.faulty(4, 0)), withFault(STEPS[4]));
  }

  private static int[] withFault(int[] looks) {
    int[] due = Arrays.copyOf(looks, looks.length);
    due[3] = 266;
    return due;
  }

  private static void argumentFirst() {
    Check.sentence(PLACE + ", Terms", "Of several exceptions the first one told is thrown");
    for (int bad : Desks.NOT_0_1) {
      Refused.argument(() -> Desks.after(3), Act.look(bad, 12), Act.look(bad, -1), Act.look(bad, bad));
    }
  }
}
