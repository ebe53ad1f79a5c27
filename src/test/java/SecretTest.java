/** Promise 9, sentence by sentence. */
public final class SecretTest {
  private static final String PLACE = "Promise 9";

  public static void main(String[] args) {
    everyByte();
    asASideHasIt();
    noSuchSide();
    noSuchLevel();
    kIs0To31();
    hasItNot();
    argumentFirst();
    Check.close();
  }

  private static void everyByte() {
    Check.sentence(PLACE, "Byte k of the secret of side of at a level (0 .. 2)");
    Oracle due = Desks.oracle();
    for (int side = 0; side < 2; side++) {
      GreetDesk desk = Desks.after(4);
      Desks.tell(desk, side, 3, Desks.NAME);
      for (int of = 0; of < 2; of++) {
        Check.sameBytes("first", Desks.secret(desk, side, 0, of), Oracle.first(Desks.NAME, of));
        Check.sameBytes("greet", Desks.secret(desk, side, 1, of), due.greet[of]);
        Check.sameBytes("talk", Desks.secret(desk, side, 2, of), due.talk[of]);
      }
    }
  }

  private static void asASideHasIt() {
    Check.sentence(PLACE, "as a side has it");
    int[] key1 = Desks.row(32, 12);
    GreetDesk desk = Desks.told(Desks.KEY, key1, Desks.PARAMETERS0, Desks.PARAMETERS1);
    desk.begin(0);
    desk.begin(1);
    Desks.tell(desk, 0, 3, 1);
    Desks.tell(desk, 1, 3, 2);
    Check.same("HELLO", desk.carry(0, 0, 99), 0);
    Check.same("ANSWER", desk.carry(1, 0, 99), 0);
    Oracle due1 = new Oracle(key1, Desks.RANDOM0, Desks.PARAMETERS0, Desks.RANDOM1, Desks.PARAMETERS1);
    for (int of = 0; of < 2; of++) {
      Check.sameBytes("first of 0", Desks.secret(desk, 0, 0, of), Oracle.first(new int[] {1}, of));
      Check.sameBytes("first of 1", Desks.secret(desk, 1, 0, of), Oracle.first(new int[] {2}, of));
      Check.sameBytes("greet of 0", Desks.secret(desk, 0, 1, of), Desks.oracle().greet[of]);
      Check.sameBytes("greet of 1", Desks.secret(desk, 1, 1, of), due1.greet[of]);
      Check.sameBytes("talk of 1", Desks.secret(desk, 1, 2, of), due1.talk[of]);
    }
  }

  private static void noSuchSide() {
    Check.sentence(PLACE, "Throws IllegalArgumentException when there is no such side");
    for (int bad : Desks.NOT_0_1) {
      for (int level = 0; level < 3; level++) {
        Refused.argument(SecretTest::withAll, Act.secret(bad, level, 0, 0), Act.secret(0, level, bad, 0),
            Act.secret(1, level, bad, 31), Act.secret(bad, level, bad, 0));
      }
    }
  }

  private static void noSuchLevel() {
    Check.sentence(PLACE, "no such side or level");
    for (int bad : new int[] {-1, 3, 4, 256, Integer.MIN_VALUE, Integer.MAX_VALUE}) {
      Refused.argument(SecretTest::withAll, Act.secret(0, bad, 0, 0), Act.secret(0, bad, 1, 31),
          Act.secret(1, bad, 0, 31), Act.secret(1, bad, 1, 0));
    }
  }

  private static void kIs0To31() {
    Check.sentence(PLACE, "or k is not 0 .. 31");
    Oracle due = Desks.oracle();
    for (int side = 0; side < 2; side++) {
      for (int of = 0; of < 2; of++) {
        for (int k : new int[] {0, 1, 30, 31}) {
          Check.same("byte " + k, withAll().secret(side, 0, of, k), Oracle.first(Desks.NAME, of)[k]);
          Check.same("byte " + k, withAll().secret(side, 1, of, k), due.greet[of][k]);
          Check.same("byte " + k, withAll().secret(side, 2, of, k), due.talk[of][k]);
        }
        for (int bad : new int[] {-1, 32, 33, 64, -32, 256, Integer.MIN_VALUE, Integer.MAX_VALUE}) {
          for (int level = 0; level < 3; level++) {
            Refused.argument(SecretTest::withAll, Act.secret(side, level, of, bad));
          }
        }
      }
    }
  }

  private static void hasItNot() {
    Check.sentence(PLACE, "NoSuchElementException when it has it not");
    int[] highest0 = {-1, -1, 1, 2, 2};
    int[] highest1 = {-1, 2, 2, 2, 2};
    for (int steps = 0; steps < 5; steps++) {
      int n = steps;
      for (int side = 0; side < 2; side++) {
        int highest = side == 0 ? highest0[steps] : highest1[steps];
        for (int of = 0; of < 2; of++) {
          Refused.missing(() -> Desks.after(n), Act.secret(side, 0, of, 0), Act.secret(side, 0, of, 31));
          for (int level = Math.max(highest, 0) + 1; level < 3; level++) {
            Refused.missing(() -> Desks.after(n), Act.secret(side, level, of, 0), Act.secret(side, level, of, 31));
          }
          for (int level = 1; level <= highest; level++) {
            Check.sameText("has it", Act.secret(side, level, of, 0).outcome(Desks.after(steps)).substring(0, 7),
                "answers");
          }
        }
      }
    }
    afterAWrongProof();
  }

  /** With a proof that is not right side 0 does not come to the talk secrets. */
  private static void afterAWrongProof() {
    Desks.Maker maker = () -> {
      GreetDesk desk = Desks.after(2);
      desk.carry(1, 1, 9);
      Check.same("a wrong proof", Desks.take(desk, 0, 1, Oracle.message(20, new int[32])), 307);
      return desk;
    };
    Refused.missing(maker, Act.secret(0, 2, 0, 0), Act.secret(0, 2, 1, 31));
    Check.same("the greet secret stays", maker.make().secret(0, 1, 0, 0), Desks.oracle().greet[0][0]);
  }

  private static void argumentFirst() {
    Check.sentence(PLACE + ", Terms", "Of several exceptions the first one told is thrown");
    for (int level = 0; level < 3; level++) {
      Refused.argument(GreetDesk::new, Act.secret(0, level, 0, 32), Act.secret(0, level, 0, -1),
          Act.secret(0, level, 2, 0), Act.secret(0, level, -1, 0), Act.secret(2, level, 0, 0),
          Act.secret(-1, level, 0, 0));
    }
    Refused.argument(GreetDesk::new, Act.secret(0, 3, 0, 0), Act.secret(0, -1, 0, 0));
  }

  private static GreetDesk withAll() {
    GreetDesk desk = Desks.after(4);
    Desks.tell(desk, 0, 3, Desks.NAME);
    Desks.tell(desk, 1, 3, Desks.NAME);
    return desk;
  }
}
