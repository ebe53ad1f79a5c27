/** Promise 8, sentence by sentence. */
public final class SentTest {
  private static final String PLACE = "Promise 8";

  public static void main(String[] args) {
    everyByte();
    largest();
    carriedOnesToo();
    noSuchSideOrLevel();
    noSuchByte();
    argumentFirst();
    Check.close();
  }

  private static void everyByte() {
    Check.sentence(PLACE, "Byte k of all that a side has sent at a level");
    GreetDesk desk = Desks.after(4);
    Oracle due = Desks.oracle();
    Check.sameBytes("by 0 at 0", Desks.sent(desk, 0, 0), due.hello);
    Check.sameBytes("by 1 at 0", Desks.sent(desk, 1, 0), due.answer);
    Check.sameBytes("by 1 at 1", Desks.sent(desk, 1, 1), Oracle.join(due.parameters, due.done1));
    Check.sameBytes("by 0 at 1", Desks.sent(desk, 0, 1), due.done0);
  }

  private static void largest() {
    Check.sentence(PLACE + ", Terms", "three bytes, the size of its BODY, highest first");
    for (int size : new int[] {0, 1, 223, 224, 255, 256, 299, 300}) {
      int[] parameters0 = Desks.row(size, 5);
      int[] parameters1 = Desks.row(size, 6);
      Oracle due = new Oracle(Desks.KEY, Desks.RANDOM0, parameters0, Desks.RANDOM1, parameters1);
      GreetDesk desk = Desks.greeted(parameters0, parameters1);
      Check.sameBytes("HELLO", Desks.sent(desk, 0, 0), due.hello);
      GreetDesk twin = Desks.greeted(parameters0, parameters1);
      Check.sameBytes("PARAMETERS and DONE", Desks.sent(twin, 1, 1), Oracle.join(due.parameters, due.done1));
    }
    GreetDesk desk = Desks.greeted(Desks.row(300, 5), Desks.row(300, 6));
    Check.same("HELLO's size, highest", desk.sent(0, 0, 1), 0);
    Check.same("HELLO's size, high", desk.sent(0, 0, 2), 1);
    Check.same("HELLO's size, low", desk.sent(0, 0, 3), 76);
    Check.same("PARAMETERS' size, high", desk.sent(1, 1, 2), 1);
    Check.same("PARAMETERS' size, low", desk.sent(1, 1, 3), 44);
  }

  private static void carriedOnesToo() {
    Check.sentence(PLACE, "of all that a side has sent");
    GreetDesk desk = Desks.begun();
    Check.same("part is carried", desk.carry(0, 0, 20), 0);
    Check.sameBytes("HELLO", Desks.sent(desk, 0, 0), Desks.oracle().hello);
    Check.same("all is carried", desk.carry(0, 0, 19), 0);
    Check.sameBytes("HELLO", Desks.sent(desk, 0, 0), Desks.oracle().hello);
    Check.sameBytes("behind a fault", Desks.sent(Desks.faulty(1, 1), 1, 0), Desks.oracle().answer);
  }

  private static void noSuchSideOrLevel() {
    Check.sentence(PLACE, "Throws IllegalArgumentException when there is no such side or level");
    for (int bad : Desks.NOT_0_1) {
      Refused.argument(() -> Desks.after(4), Act.sent(bad, 0, 0), Act.sent(bad, 1, 0), Act.sent(bad, bad, 0));
      Refused.argument(() -> Desks.after(4), Act.sent(0, bad, 0), Act.sent(1, bad, 0));
    }
  }

  private static void noSuchByte() {
    Check.sentence(PLACE, "NoSuchElementException when there is no such byte");
    int[][] sizes = {{39, 36}, {36, 45}};
    for (int side = 0; side < 2; side++) {
      for (int level = 0; level < 2; level++) {
        int size = sizes[side][level];
        Check.sameText("the first", Act.sent(side, level, 0).outcome(Desks.after(4)),
            "answers " + (side == 0 ? level == 0 ? 1 : 20 : level == 0 ? 2 : 8));
        Check.sameText("the last", Act.sent(side, level, size - 1).outcome(Desks.after(4)).substring(0, 7), "answers");
        for (int k : new int[] {-1, size, size + 1, 335, 336, 340, 65536, Integer.MIN_VALUE, Integer.MAX_VALUE}) {
          Refused.missing(() -> Desks.after(4), Act.sent(side, level, k));
        }
        for (int k : new int[] {-1, 0, 1, 35, Integer.MIN_VALUE, Integer.MAX_VALUE}) {
          Refused.missing(Desks::told, Act.sent(side, level, k));
        }
      }
    }
    Refused.missing(Desks::begun, Act.sent(1, 0, 0), Act.sent(1, 1, 0), Act.sent(0, 1, 0));
    Desks.Maker largest = () -> Desks.greeted(Desks.row(300, 5), Desks.row(300, 6));
    Refused.missing(largest, Act.sent(0, 0, 336), Act.sent(1, 1, 340), Act.sent(0, 1, 36), Act.sent(1, 0, 36));
    Oracle due = new Oracle(Desks.KEY, Desks.RANDOM0, Desks.row(300, 5), Desks.RANDOM1, Desks.row(300, 6));
    Check.same("the last of the largest HELLO", largest.make().sent(0, 0, 335), due.hello[335]);
    Check.same("the last of the largest PARAMETERS and DONE", largest.make().sent(1, 1, 339), due.done1[35]);
  }

  private static void argumentFirst() {
    Check.sentence(PLACE + ", Terms", "Of several exceptions the first one told is thrown");
    for (int bad : Desks.NOT_0_1) {
      for (int k : new int[] {-1, 0, 999}) {
        Refused.argument(GreetDesk::new, Act.sent(bad, 0, k), Act.sent(0, bad, k), Act.sent(bad, bad, k));
      }
    }
  }
}
