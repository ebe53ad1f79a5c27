/** Promise 7. */
public final class CarryTest {
  public static void main(String[] args) {
    for (int piece = 1; piece <= 50; piece++) {
      inPieces(piece);
    }
    countsWhatIsCarried();
    carriedWhateverItAnswers();
    wrongInputs();
    Check.close();
  }

  private static void inPieces(int piece) {
    GreetDesk desk = Desks.begun();
    int[][] ways = {{0, 0}, {1, 0}, {1, 1}, {0, 1}};
    for (int[] way : ways) {
      int all = desk.look(way[0], 4 + way[1]);
      int carried = 0;
      while (carried < all) {
        Check.same("carry " + piece, desk.carry(way[0], way[1], piece), 0);
        carried = Math.min(all, carried + piece);
        Check.same("carried", desk.look(way[0], 10 + way[1]), carried);
      }
      Check.same("no more", desk.carry(way[0], way[1], piece), 0);
      Check.same("carried", desk.look(way[0], 10 + way[1]), all);
    }
    Check.same("finished 0", desk.look(0, 2), 1);
    Check.same("finished 1", desk.look(1, 2), 1);
    Check.sameBytes("DONE", Desks.sent(desk, 0, 1), Desks.oracle().done0);
  }

  private static void countsWhatIsCarried() {
    GreetDesk desk = Desks.begun();
    Desks.feed(desk, 5, 6);
    Check.same("nothing sent yet", desk.carry(1, 1, 7), 0);
    Check.same("carried", desk.look(1, 11), 0);
    Check.same("part", desk.carry(0, 0, 38), 0);
    Check.same("carried", desk.look(0, 10), 38);
    Check.same("waits", desk.look(1, 6), 38);
    Check.same("as many as can be", desk.carry(0, 0, Integer.MAX_VALUE), 0);
    Check.same("carried", desk.look(0, 10), 39);
    Check.same("waits", desk.look(1, 6), 0);
    Check.same("tape stays", desk.wipe(), 2);
    GreetDesk alone = Desks.told();
    alone.begin(1);
    Check.same("from a side that has not begun", alone.carry(0, 0, 9), 0);
  }

  private static void carriedWhateverItAnswers() {
    GreetDesk early = Desks.after(1);
    Check.same("level 1 before level 0", early.carry(1, 1, 10), 266);
    Check.same("carried", early.look(1, 11), 10);
    Desks.unchanged("had a fault", IllegalStateException.class, early, 0, () -> early.carry(1, 1, 10));
    Desks.unchanged("had a fault", IllegalStateException.class, early, 0, () -> early.carry(1, 0, 10));

    GreetDesk keys = Desks.told(Desks.KEY, Desks.row(32, 12), Desks.PARAMETERS0, Desks.PARAMETERS1);
    keys.begin(0);
    keys.begin(1);
    Check.same("HELLO", keys.carry(0, 0, 999), 0);
    Check.same("ANSWER", keys.carry(1, 0, 999), 0);
    Check.same("other keys", keys.carry(1, 1, 999), 307);
    Check.same("carried", keys.look(1, 11), 45);
  }

  private static void wrongInputs() {
    GreetDesk desk = Desks.told();
    desk.begin(0);
    Desks.unchanged("other not begun", IllegalStateException.class, desk, 0, () -> desk.carry(0, 0, 1));
    Desks.unchanged("argument first", IllegalArgumentException.class, desk, 0, () -> desk.carry(0, 0, 0));
    desk.begin(1);
    for (int bad : new int[] {-1, 2, Integer.MIN_VALUE, Integer.MAX_VALUE}) {
      GreetDesk begun = Desks.begun();
      Desks.unchanged("side " + bad, IllegalArgumentException.class, begun, 0, () -> begun.carry(bad, 0, 1));
      Desks.unchanged("level " + bad, IllegalArgumentException.class, begun, 0, () -> begun.carry(0, bad, 1));
    }
    for (int bad : new int[] {0, -1, Integer.MIN_VALUE}) {
      Desks.unchanged("n " + bad, IllegalArgumentException.class, desk, 0, () -> desk.carry(0, 0, bad));
    }
    Check.same("a fault of the sender", Desks.take(desk, 0, 1, 8), 266);
    Check.same("does not hinder it", desk.carry(0, 0, 39), 0);
    Check.same("ANSWER is sent", desk.look(1, 4), 36);
  }
}
