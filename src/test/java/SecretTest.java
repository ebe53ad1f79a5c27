/** Promise 9, with DIGEST, MAC and LABEL at every size that they meet. */
public final class SecretTest {
  public static void main(String[] args) {
    firstSecrets();
    greetAndTalk();
    everySize();
    wrongInputs();
    Check.close();
  }

  private static void firstSecrets() {
    for (int size = 1; size <= 20; size++) {
      int[] name = Desks.row(size, size * 7);
      GreetDesk desk = new GreetDesk();
      Desks.tell(desk, 1, 3, name);
      Check.sameBytes("of 0", Desks.secret(desk, 1, 0, 0), Oracle.first(name, 0));
      Check.sameBytes("of 1", Desks.secret(desk, 1, 0, 1), Oracle.first(name, 1));
      Check.missing("the other side has none", () -> desk.secret(0, 0, 0, 0));
      Check.missing("of a higher level", () -> desk.secret(1, 1, 0, 0));
    }
    GreetDesk desk = new GreetDesk();
    Desks.tell(desk, 0, 3, Desks.row(20, 1));
    Desks.tell(desk, 0, 3, 9, 9, 9);
    Desks.tell(desk, 1, 3, 8);
    Check.sameBytes("the last name", Desks.secret(desk, 0, 0, 1), Oracle.first(new int[] {9, 9, 9}, 1));
    Check.sameBytes("each side's own", Desks.secret(desk, 1, 0, 1), Oracle.first(new int[] {8}, 1));
  }

  private static void greetAndTalk() {
    Oracle due = Desks.oracle();
    int[] highest0 = {-1, -1, 1, 2, 2};
    int[] highest1 = {-1, 2, 2, 2, 2};
    for (int steps = 0; steps < 5; steps++) {
      GreetDesk desk = Desks.after(steps);
      for (int s = 0; s < 2; s++) {
        int side = s;
        int highest = side == 0 ? highest0[steps] : highest1[steps];
        for (int o = 0; o < 2; o++) {
          int of = o;
          Check.missing("first", () -> desk.secret(side, 0, of, 0));
          if (highest >= 1) {
            Check.sameBytes("greet", Desks.secret(desk, side, 1, of), due.greet[of]);
          } else {
            Check.missing("greet", () -> desk.secret(side, 1, of, 0));
          }
          if (highest == 2) {
            Check.sameBytes("talk", Desks.secret(desk, side, 2, of), due.talk[of]);
          } else {
            Check.missing("talk", () -> desk.secret(side, 2, of, 31));
          }
        }
      }
    }
  }

  private static void everySize() {
    for (int size = 0; size <= 300; size++) {
      greetWith(size, (size * 131 + 17) % 301);
      greetWith(size, 300);
    }
  }

  private static void greetWith(int size0, int size1) {
    int[] parameters0 = Desks.row(size0, 1);
    int[] parameters1 = Desks.row(size1, 2);
    GreetDesk desk = Desks.greeted(parameters0, parameters1);
    String with = " with " + size0 + " and " + size1;
    Oracle due = new Oracle(Desks.KEY, Desks.RANDOM0, parameters0, Desks.RANDOM1, parameters1);
    Check.sameBytes("greet" + with, Desks.secret(desk, 0, 1, 0), due.greet[0]);
    Check.sameBytes("greet" + with, Desks.secret(desk, 1, 1, 1), due.greet[1]);
    Check.sameBytes("talk" + with, Desks.secret(desk, 0, 2, 1), due.talk[1]);
    Check.sameBytes("talk" + with, Desks.secret(desk, 1, 2, 0), due.talk[0]);
  }

  private static void wrongInputs() {
    GreetDesk desk = Desks.after(4);
    GreetDesk fresh = new GreetDesk();
    for (int bad : new int[] {-1, 2, Integer.MIN_VALUE, Integer.MAX_VALUE}) {
      Check.argument("side " + bad, () -> desk.secret(bad, 1, 0, 0));
      Check.argument("of " + bad, () -> desk.secret(0, 1, bad, 0));
      Check.argument("argument first", () -> fresh.secret(0, 1, bad, 0));
    }
    for (int bad : new int[] {-1, 3, Integer.MIN_VALUE, Integer.MAX_VALUE}) {
      Check.argument("level " + bad, () -> desk.secret(0, bad, 0, 0));
    }
    for (int bad : new int[] {-1, 32, Integer.MIN_VALUE, Integer.MAX_VALUE}) {
      Desks.unchanged("k " + bad, IllegalArgumentException.class, desk, 0, () -> desk.secret(0, 1, 0, bad));
      Check.argument("argument first", () -> fresh.secret(0, 1, 0, bad));
    }
  }
}
