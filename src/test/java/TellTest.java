/** Promise 4, sentence by sentence. */
public final class TellTest {
  private static final String PLACE = "Promise 4";

  public static void main(String[] args) {
    getsWhatTheTapeHas();
    whichIsRead();
    keyAndRandomOf32();
    parametersOf0To300();
    nameOf1To20();
    nameAlsoWhenBegun();
    noSuchSide();
    noSuchWhat();
    whenBegun();
    argumentFirst();
    Check.close();
  }

  private static void getsWhatTheTapeHas() {
    Check.sentence(PLACE, "A side gets what the tape has");
    GreetDesk desk = new GreetDesk();
    for (int side = 0; side < 2; side++) {
      Desks.tell(desk, side, 0, Desks.row(32, 1));
      Desks.tell(desk, side, 1, Desks.row(32, 2));
      Desks.tell(desk, side, 2, Desks.row(20, 3));
      Desks.tell(desk, side, 0, Desks.KEY);
      Desks.tell(desk, side, 1, side == 0 ? Desks.RANDOM0 : Desks.RANDOM1);
      Desks.tell(desk, side, 2, side == 0 ? Desks.PARAMETERS0 : Desks.PARAMETERS1);
      desk.begin(side);
    }
    for (int i = 0; i < 4; i++) {
      Check.same("step " + i, Desks.step(desk, i), 0);
    }
    Oracle due = Desks.oracle();
    Check.sameBytes("HELLO", Desks.sent(desk, 0, 0), due.hello);
    Check.sameBytes("ANSWER", Desks.sent(desk, 1, 0), due.answer);
    Check.sameBytes("rest of side 1", Desks.sent(desk, 1, 1), Oracle.join(due.parameters, due.done1));
    Check.sameBytes("DONE of side 0", Desks.sent(desk, 0, 1), due.done0);
    theOtherSideGetsNothing();
  }

  private static void theOtherSideGetsNothing() {
    for (int side = 0; side < 2; side++) {
      int other = 1 - side;
      Desks.Maker maker = () -> {
        GreetDesk desk = new GreetDesk();
        Desks.tell(desk, 1 - other, 0, Desks.KEY);
        Desks.tell(desk, 1 - other, 1, Desks.RANDOM0);
        Desks.tell(desk, 1 - other, 3, Desks.NAME);
        return desk;
      };
      Refused.state(maker, Act.begin(other));
      Refused.missing(maker, Act.secret(other, 0, 0, 0));
      Check.sameText("begin", Act.begin(side).outcome(maker.make()), "answers 0");
    }
  }

  private static void whichIsRead() {
    Check.sentence(PLACE, "what the tape has, which is read");
    for (int side = 0; side < 2; side++) {
      GreetDesk desk = new GreetDesk();
      Desks.tell(desk, side, 0, Desks.KEY);
      Check.same("tape behind key", desk.wipe(), 0);
      Desks.tell(desk, side, 1, Desks.RANDOM0);
      Check.same("tape behind random bytes", desk.wipe(), 0);
      Desks.tell(desk, side, 2, Desks.PARAMETERS0);
      Check.same("tape behind parameters", desk.wipe(), 0);
      Desks.tell(desk, side, 3, Desks.NAME);
      Check.same("tape behind name", desk.wipe(), 0);
      desk.begin(side);
      Desks.tell(desk, side, 3, Desks.NAME);
      Check.same("tape behind name when begun", desk.wipe(), 0);
    }
  }

  private static void keyAndRandomOf32() {
    Check.sentence(PLACE + ", Terms", "Each has a KEY and RANDOM bytes (32 each)");
    for (int side = 0; side < 2; side++) {
      for (int what = 0; what < 2; what++) {
        accepted(side, what, 32);
        for (int size : new int[] {0, 1, 20, 31, 33, 64, 300, 2048}) {
          Refused.argument(Desks.with(GreetDesk::new, Desks.row(size, 3)), Act.tell(side, what));
        }
      }
    }
  }

  private static void parametersOf0To300() {
    Check.sentence(PLACE + ", Terms", "PARAMETERS, 0 to 300 bytes");
    for (int side = 0; side < 2; side++) {
      for (int size : new int[] {0, 1, 32, 255, 256, 299, 300}) {
        accepted(side, 2, size);
      }
      for (int size : new int[] {301, 302, 512, 2048}) {
        Refused.argument(Desks.with(GreetDesk::new, Desks.row(size, 3)), Act.tell(side, 2));
      }
    }
    for (int size : new int[] {0, 1, 299, 300}) {
      GreetDesk desk = Desks.told(Desks.KEY, Desks.KEY, Desks.row(size, 8), Desks.PARAMETERS1);
      desk.begin(0);
      int[] due = Oracle.message(1, Oracle.join(Desks.RANDOM0, Desks.row(size, 8)));
      Check.sameBytes("HELLO with " + size, Desks.sent(desk, 0, 0), due);
    }
    GreetDesk none = Desks.told();
    none.tell(0, 2);
    none.begin(0);
    Check.sameBytes("parameters told away", Desks.sent(none, 0, 0), Oracle.message(1, Desks.RANDOM0));
  }

  private static void nameOf1To20() {
    Check.sentence(PLACE + ", Terms", "the FIRST NAME (1 to 20 bytes)");
    for (int side = 0; side < 2; side++) {
      for (int size : new int[] {1, 2, 19, 20}) {
        accepted(side, 3, size);
        GreetDesk desk = new GreetDesk();
        Desks.tell(desk, side, 3, Desks.row(size, 4));
        Check.sameBytes("first secret of 0", Desks.secret(desk, side, 0, 0), Oracle.first(Desks.row(size, 4), 0));
        Check.sameBytes("first secret of 1", Desks.secret(desk, side, 0, 1), Oracle.first(Desks.row(size, 4), 1));
      }
      for (int size : new int[] {0, 21, 22, 32, 276, 2048}) {
        Refused.argument(Desks.with(GreetDesk::new, Desks.row(size, 3)), Act.tell(side, 3));
        Refused.argument(Desks.with(Desks::begun, Desks.row(size, 3)), Act.tell(side, 3));
      }
    }
  }

  private static void nameAlsoWhenBegun() {
    Check.sentence(PLACE, "3 the first name (also when it has begun; its first secrets are those)");
    Desks.Maker[] makers = {Desks::told, () -> Desks.begun(0), () -> Desks.begun(1), Desks::begun,
      () -> Desks.after(1), () -> Desks.after(2), () -> Desks.after(3), () -> Desks.after(4),
      () -> Desks.faulty(0, 0), () -> Desks.faulty(0, 1), () -> Desks.faulty(4, 0), () -> Desks.faulty(4, 1)};
    for (Desks.Maker maker : makers) {
      for (int side = 0; side < 2; side++) {
        GreetDesk desk = maker.make();
        int[] before = Desks.looks(desk);
        Desks.tell(desk, side, 3, Desks.NAME);
        Check.sameBytes("of 0", Desks.secret(desk, side, 0, 0), Oracle.first(Desks.NAME, 0));
        Check.sameBytes("of 1", Desks.secret(desk, side, 0, 1), Oracle.first(Desks.NAME, 1));
        Desks.tell(desk, side, 3, 5);
        Check.sameBytes("another name", Desks.secret(desk, side, 0, 1), Oracle.first(new int[] {5}, 1));
        Check.sameText("the other side's", Act.secret(1 - side, 0, 0, 0).outcome(desk),
            "throws java.util.NoSuchElementException");
        before[12 * side + 9] = Math.max(0, before[12 * side + 9]);
        Check.sameBytes("all else stays", Desks.looks(desk), before);
      }
    }
    theGreetingStays();
  }

  private static void theGreetingStays() {
    GreetDesk desk = Desks.begun();
    for (int i = 0; i < 4; i++) {
      Desks.tell(desk, 0, 3, Desks.NAME);
      Desks.tell(desk, 1, 3, 1 + i);
      Check.same("step " + i, Desks.step(desk, i), 0);
    }
    Check.sameBytes("DONE of side 0", Desks.sent(desk, 0, 1), Desks.oracle().done0);
    Check.sameBytes("talk", Desks.secret(desk, 1, 2, 0), Desks.oracle().talk[0]);
  }

  private static void noSuchSide() {
    Check.sentence(PLACE, "Throws IllegalArgumentException when there is no such side");
    for (int side : Desks.NOT_0_1) {
      Refused.argument(Desks.with(Desks::told, Desks.KEY), Act.tell(side, 0), Act.tell(side, 1), Act.tell(side, 2));
      Refused.argument(Desks.with(Desks::told, Desks.NAME), Act.tell(side, 3));
    }
  }

  private static void noSuchWhat() {
    Check.sentence(PLACE, "no such side or what");
    for (int what : new int[] {-1, 4, 5, 256, 259, Integer.MIN_VALUE, Integer.MAX_VALUE}) {
      for (int side = 0; side < 2; side++) {
        for (int size : new int[] {0, 1, 20, 32, 300}) {
          Refused.argument(Desks.with(Desks::told, Desks.row(size, 1)), Act.tell(side, what));
        }
      }
    }
  }

  private static void whenBegun() {
    Check.sentence(PLACE, "IllegalStateException when the side has begun (0 .. 2)");
    for (int side = 0; side < 2; side++) {
      int s = side;
      Desks.Maker[] makers = {() -> Desks.begun(s), Desks::begun, () -> Desks.after(2), () -> Desks.after(4),
        () -> Desks.faulty(0, s), () -> Desks.faulty(4, s)};
      for (Desks.Maker maker : makers) {
        Refused.state(Desks.with(maker, Desks.KEY), Act.tell(side, 0), Act.tell(side, 1), Act.tell(side, 2));
        Refused.state(maker, Act.tell(side, 2));
        Refused.state(Desks.with(maker, Desks.row(300, 0)), Act.tell(side, 2));
      }
      GreetDesk desk = Desks.begun(side);
      Desks.tell(desk, 1 - side, 0, Desks.row(32, 5));
      Desks.tell(desk, 1 - side, 1, Desks.row(32, 6));
      Desks.tell(desk, 1 - side, 2, Desks.row(33, 7));
      Check.same("the other side has not", desk.wipe(), 0);
    }
  }

  private static void argumentFirst() {
    Check.sentence(PLACE + ", Terms", "Of several exceptions the first one told is thrown");
    for (int side = 0; side < 2; side++) {
      for (int size : new int[] {0, 31, 33}) {
        Refused.argument(Desks.with(Desks::begun, Desks.row(size, 0)), Act.tell(side, 0), Act.tell(side, 1));
      }
      Refused.argument(Desks.with(Desks::begun, Desks.row(301, 0)), Act.tell(side, 2));
      Refused.argument(Desks.with(Desks::begun, Desks.KEY), Act.tell(side, 4), Act.tell(side, -1));
      Refused.argument(Desks.with(Desks::begun, Desks.KEY), Act.tell(2, 0), Act.tell(-1, 0));
    }
  }

  private static void accepted(int side, int what, int size) {
    GreetDesk desk = new GreetDesk();
    Desks.feed(desk, Desks.row(size, 3));
    String call = "tell(" + side + ", " + what + ") with " + size + " bytes";
    Check.sameText(call, Act.tell(side, what).outcome(desk), "answers 0");
    Check.same(call + ": the tape behind it", desk.wipe(), 0);
  }
}
