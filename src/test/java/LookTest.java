/** Promise 11. */
public final class LookTest {
  public static void main(String[] args) {
    int[][] due = {
      {2, 1, 0, 0, 39, 0, 0, 0, -1, -1, 0, 0, 1, 1, 0, 0, 0, 0, 0, 0, -1, -1, 0, 0},
      {2, 1, 0, 0, 39, 0, 0, 0, -1, -1, 39, 0, 20, 1, 0, 0, 36, 45, 0, 0, 3, 2, 0, 0},
      {8, 1, 0, 0, 39, 0, 0, 0, -1, 1, 39, 0, 20, 1, 0, 0, 36, 45, 0, 0, 3, 2, 36, 0},
      {0, 1, 1, 0, 39, 36, 0, 0, 5, 2, 39, 0, 20, 1, 0, 0, 36, 45, 0, 0, 3, 2, 36, 45},
      {0, 1, 1, 0, 39, 36, 0, 0, 5, 2, 39, 36, 0, 1, 1, 0, 36, 45, 0, 0, 3, 2, 36, 45},
    };
    for (int steps = 0; steps < 5; steps++) {
      Check.sameBytes("behind " + steps, Desks.looks(Desks.after(steps)), due[steps]);
    }
    waitingBytes();
    highestLevel();
    behindAFault();
    wrongInputs();
    Check.close();
  }

  private static void waitingBytes() {
    GreetDesk desk = Desks.after(2);
    Check.same("PARAMETERS and part of DONE", desk.carry(1, 1, 20), 0);
    Check.same("waits for DONE", desk.look(0, 0), 20);
    Check.same("bytes at 0", desk.look(0, 6), 0);
    Check.same("bytes at 1", desk.look(0, 7), 11);
    Check.same("parameters", desk.look(0, 8), 5);
    Check.same("carried", desk.look(1, 11), 20);
  }

  private static void highestLevel() {
    GreetDesk desk = Desks.begun();
    Desks.tell(desk, 0, 3, Desks.NAME);
    Check.same("first", desk.look(0, 9), 0);
    Check.same("none", desk.look(1, 9), -1);
    Desks.step(desk, 0);
    Desks.step(desk, 1);
    Check.same("greet", desk.look(0, 9), 1);
    Desks.tell(desk, 1, 3, Desks.NAME);
    Check.same("talk", desk.look(1, 9), 2);
  }

  private static void behindAFault() {
    GreetDesk desk = Desks.after(4);
    Check.same("a byte too many", Desks.take(desk, 0, 1, 20), 266);
    int[] due = {0, 1, 1, 266, 39, 36, 0, 0, 5, 2, 39, 36, 0, 1, 1, 0, 36, 45, 0, 0, 3, 2, 36, 45};
    Check.sameBytes("looks", Desks.looks(desk), due);
  }

  private static void wrongInputs() {
    GreetDesk desk = Desks.after(3);
    for (int bad : new int[] {-1, 2, Integer.MIN_VALUE, Integer.MAX_VALUE}) {
      Desks.unchanged("side " + bad, IllegalArgumentException.class, desk, 0, () -> desk.look(bad, 0));
      Check.argument("argument first", () -> desk.look(bad, 12));
    }
    for (int bad : new int[] {-1, 12, Integer.MIN_VALUE, Integer.MAX_VALUE}) {
      Desks.unchanged("what " + bad, java.util.NoSuchElementException.class, desk, 0, () -> desk.look(1, bad));
    }
  }
}
