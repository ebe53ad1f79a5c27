/** Promise 10, sentence by sentence. */
public final class TheirsTest {
  private static final String PLACE = "Promise 10";

  public static void main(String[] args) {
    everyByte();
    asASideHasThem();
    noSuchSide();
    notKnown();
    noSuchByte();
    argumentFirst();
    Check.close();
  }

  private static void everyByte() {
    Check.sentence(PLACE, "Byte k of the other side's parameters");
    for (int size : new int[] {0, 1, 2, 255, 256, 299, 300}) {
      int[] parameters = Desks.row(size, 77);
      Check.sameBytes("of side 1", Desks.theirs(Desks.greeted(Desks.PARAMETERS0, parameters), 0), parameters);
      Check.sameBytes("of side 0", Desks.theirs(Desks.greeted(parameters, Desks.PARAMETERS1), 1), parameters);
    }
  }

  private static void asASideHasThem() {
    Check.sentence(PLACE, "as a side has them");
    GreetDesk desk = Desks.begun();
    int[] body = Desks.row(40, 3);
    Check.same("another HELLO", Desks.take(desk, 1, 0, Oracle.message(1, body)), 0);
    Check.sameBytes("its parameters", Desks.theirs(desk, 1), java.util.Arrays.copyOfRange(body, 32, 40));
    Check.same("ANSWER", desk.carry(1, 0, 36), 0);
    Check.same("other PARAMETERS", Desks.take(desk, 0, 1, Oracle.message(8, body)), 0);
    Check.sameBytes("those", Desks.theirs(desk, 0), body);
    Check.same("a fault", Desks.take(desk, 0, 1, 21), 266);
    Check.sameBytes("behind a fault", Desks.theirs(desk, 0), body);
  }

  private static void noSuchSide() {
    Check.sentence(PLACE, "Throws IllegalArgumentException when there is no such side");
    for (int bad : Desks.NOT_0_1) {
      Refused.argument(() -> Desks.after(4), Act.theirs(bad, 0), Act.theirs(bad, 2));
    }
  }

  private static void notKnown() {
    Check.sentence(PLACE, "NoSuchElementException when there is none");
    for (int k : new int[] {0, 1, -1, 299, Integer.MIN_VALUE, Integer.MAX_VALUE}) {
      Refused.missing(GreetDesk::new, Act.theirs(0, k), Act.theirs(1, k));
      Refused.missing(Desks::begun, Act.theirs(0, k), Act.theirs(1, k));
      Refused.missing(() -> Desks.after(1), Act.theirs(0, k));
      Refused.missing(() -> Desks.after(2), Act.theirs(0, k));
    }
    Refused.missing(() -> partOf(38), Act.theirs(1, 0));
    Check.same("with the last byte", partOf(39).theirs(1, 0), 1);
  }

  private static GreetDesk partOf(int n) {
    GreetDesk desk = Desks.begun();
    desk.carry(0, 0, n);
    return desk;
  }

  private static void noSuchByte() {
    Check.sentence(PLACE, "Byte k of the other side's parameters .. NoSuchElementException when there is none");
    Check.same("the last of side 1", Desks.after(4).theirs(0, 4), 7);
    Check.same("the last of side 0", Desks.after(4).theirs(1, 2), 255);
    for (int k : new int[] {-1, 5, 6, 299, 300, 301, Integer.MIN_VALUE, Integer.MAX_VALUE}) {
      Refused.missing(() -> Desks.after(4), Act.theirs(0, k));
    }
    for (int k : new int[] {-1, 3, 4, 300, Integer.MIN_VALUE, Integer.MAX_VALUE}) {
      Refused.missing(() -> Desks.after(4), Act.theirs(1, k));
    }
    Desks.Maker none = () -> Desks.greeted(new int[0], new int[0]);
    Refused.missing(none, Act.theirs(0, 0), Act.theirs(1, 0), Act.theirs(0, -1), Act.theirs(1, -1));
    Desks.Maker most = () -> Desks.greeted(Desks.row(300, 0), Desks.row(300, 0));
    Refused.missing(most, Act.theirs(0, 300), Act.theirs(1, 300), Act.theirs(0, 301), Act.theirs(1, -1));
  }

  private static void argumentFirst() {
    Check.sentence(PLACE + ", Terms", "Of several exceptions the first one told is thrown");
    for (int bad : Desks.NOT_0_1) {
      Refused.argument(GreetDesk::new, Act.theirs(bad, 0), Act.theirs(bad, -1), Act.theirs(bad, 300));
    }
  }
}
