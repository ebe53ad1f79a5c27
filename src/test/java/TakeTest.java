/** Promise 6, and the faults. */
public final class TakeTest {
  public static void main(String[] args) {
    wholeGreeting();
    byteByByte();
    wrongTypes();
    wrongSizes();
    edgeSizes();
    wrongProofs();
    behindTheLastMessage();
    wrongInputs();
    Check.close();
  }

  private static void wholeGreeting() {
    GreetDesk desk = Desks.begun();
    Oracle due = Desks.oracle();
    Check.same("empty tape", desk.take(1, 1), 0);
    Check.same("empty tape", desk.take(1, 0), 0);
    Check.same("HELLO", Desks.take(desk, 1, 0, due.hello), 0);
    Check.same("tape", desk.wipe(), 0);
    Check.sameBytes("ANSWER", Desks.sent(desk, 1, 0), due.answer);
    Check.sameBytes("rest", Desks.sent(desk, 1, 1), Oracle.join(due.parameters, due.done1));
    Check.same("ANSWER", Desks.take(desk, 0, 0, due.answer), 0);
    Check.same("rest", Desks.take(desk, 0, 1, Oracle.join(due.parameters, due.done1)), 0);
    Check.sameBytes("DONE", Desks.sent(desk, 0, 1), due.done0);
    Check.same("DONE", Desks.take(desk, 1, 1, due.done0), 0);
    int[] side0 = {0, 1, 1, 0, 39, 36, 0, 0, 5, 2, 0, 0};
    int[] side1 = {0, 1, 1, 0, 36, 45, 0, 0, 3, 2, 0, 0};
    Check.sameBytes("looks", Desks.looks(desk), Oracle.join(side0, side1));
    Check.same("empty tape when finished", desk.take(0, 0), 0);
    Check.same("empty tape when finished", desk.take(1, 1), 0);
  }

  private static void byteByByte() {
    GreetDesk desk = Desks.begun();
    int[] hello = Desks.oracle().hello;
    for (int i = 0; i < hello.length - 1; i++) {
      Check.same("byte " + i, Desks.take(desk, 1, 0, hello[i]), 0);
      Check.same("waits", desk.look(1, 6), i + 1);
      Check.same("at the other level", desk.look(1, 7), 0);
      Check.same("no parameters yet", desk.look(1, 8), -1);
    }
    Check.same("last byte", Desks.take(desk, 1, 0, hello[hello.length - 1]), 0);
    Check.same("nothing waits", desk.look(1, 6), 0);
    Check.same("parameters", desk.look(1, 8), 3);
    int[] done = Desks.oracle().done0;
    Check.same("half", Desks.take(desk, 1, 1, java.util.Arrays.copyOf(done, 20)), 0);
    Check.same("waits", desk.look(1, 7), 20);
    Check.same("at the other level", desk.look(1, 6), 0);
    Check.same("DONE is waited for", desk.look(1, 0), 20);
  }

  private static void wrongTypes() {
    int[] wanted0 = {2, 2, 8, 0, 0};
    int[] wanted1 = {1, 20, 20, 20, 0};
    for (int steps = 0; steps < 5; steps++) {
      for (int side = 0; side < 2; side++) {
        int wanted = side == 0 ? wanted0[steps] : wanted1[steps];
        int level = wanted == 1 || wanted == 2 ? 0 : 1;
        GreetDesk whole = Desks.after(steps);
        Check.same("wanted", whole.look(side, 0), wanted);
        for (int type : new int[] {0, 1, 2, 8, 20, 255}) {
          for (int at = 0; at < 2; at++) {
            GreetDesk desk = Desks.after(steps);
            boolean right = wanted != 0 && type == wanted && at == level;
            int fault = right ? 0 : 266;
            Check.same("type " + type + " at " + at + " behind " + steps, Desks.take(desk, side, at, type), fault);
            Check.same("fault", desk.look(side, 3), fault);
            Check.same("waits for", desk.look(side, 0), right ? wanted : 0);
            Check.same("bytes wait", desk.look(side, 6 + at), right ? 1 : 0);
            Check.same("finished stays", desk.look(side, 2), whole.look(side, 2));
          }
        }
      }
    }
    GreetDesk desk = Desks.begun();
    Check.same("half a HELLO", Desks.take(desk, 1, 0, 1, 0, 0), 0);
    Check.same("a byte at the other level", Desks.take(desk, 1, 1, 1), 266);
    Check.same("nothing waits", desk.look(1, 6), 0);
  }

  private static void wrongSizes() {
    size(0, 1, 1, 0, new int[] {0, 31, 333, 256 * 256 + 32, 0xffffff});
    size(0, 0, 2, 0, new int[] {0, 31, 33, 32 * 256, 256 * 256 + 32, 0xffffff});
    size(2, 0, 8, 1, new int[] {301, 512, 256 * 256, 0xffffff});
    size(1, 1, 20, 1, new int[] {0, 31, 33, 32 * 256 + 32, 0xffffff});
  }

  private static void size(int steps, int side, int type, int level, int[] sizes) {
    for (int size : sizes) {
      GreetDesk desk = Desks.after(steps);
      String what = "type " + type + " of " + size;
      Check.same(what, Desks.take(desk, side, level, type, size >>> 16, size >>> 8 & 255), 0);
      Check.same(what, desk.look(side, 6 + level), 3);
      Check.same(what, Desks.take(desk, side, level, size & 255), 306);
      Check.same(what, desk.look(side, 6 + level), 0);
      Check.same(what, desk.look(side, 3), 306);
      Check.same(what, desk.look(side, 0), 0);
      Check.state(what, () -> desk.take(side, level));
    }
  }

  private static void edgeSizes() {
    for (int size : new int[] {32, 33, 331, 332}) {
      GreetDesk desk = Desks.begun();
      int[] body = Desks.row(size, 99);
      Check.same("HELLO", Desks.take(desk, 1, 0, Oracle.message(1, body)), 0);
      Check.sameBytes("parameters", Desks.theirs(desk, 1), java.util.Arrays.copyOfRange(body, 32, size));
    }
    for (int size : new int[] {0, 1, 299, 300}) {
      GreetDesk desk = Desks.after(2);
      int[] body = Desks.row(size, 99);
      Check.same("PARAMETERS", Desks.take(desk, 0, 1, Oracle.message(8, body)), 0);
      Check.same("waits for DONE", desk.look(0, 0), 20);
      Check.sameBytes("parameters", Desks.theirs(desk, 0), body);
    }
  }

  private static void wrongProofs() {
    for (int bad = 4; bad < 36; bad++) {
      int[] done1 = Desks.oracle().done1.clone();
      done1[bad] ^= 1 << bad % 8;
      GreetDesk desk = Desks.after(2);
      Check.same("PARAMETERS", Desks.take(desk, 0, 1, Desks.oracle().parameters), 0);
      Check.same("DONE but for a byte", Desks.take(desk, 0, 1, java.util.Arrays.copyOf(done1, 35)), 0);
      Check.same("DONE " + bad, Desks.take(desk, 0, 1, done1[35]), 307);
      int[] side0 = {0, 1, 0, 307, 39, 0, 0, 0, 5, 1, 39, 0};
      Check.sameBytes("looks", java.util.Arrays.copyOf(Desks.looks(desk), 12), side0);

      int[] done0 = Desks.oracle().done0.clone();
      done0[bad] ^= 128 >> bad % 8;
      GreetDesk other = Desks.after(3);
      Check.same("DONE " + bad, Desks.take(other, 1, 1, done0), 307);
      int[] side1 = {0, 1, 0, 307, 36, 45, 0, 0, 3, 2, 36, 45};
      Check.sameBytes("looks", java.util.Arrays.copyOfRange(Desks.looks(other), 12, 24), side1);
    }
  }

  private static void behindTheLastMessage() {
    Oracle due = Desks.oracle();
    GreetDesk hello = Desks.begun();
    Check.same("HELLO and a byte", Desks.take(hello, 1, 0, Oracle.join(due.hello, new int[] {1})), 266);
    Check.same("sent all the same", hello.look(1, 5), 45);
    Check.same("secrets all the same", hello.look(1, 9), 2);
    GreetDesk answer = Desks.begun();
    Check.same("ANSWER and PARAMETERS", Desks.take(answer, 0, 0, Oracle.join(due.answer, due.parameters)), 266);
    Check.same("greet secrets", answer.look(0, 9), 1);
    GreetDesk done1 = Desks.after(2);
    int[] twice = Oracle.join(due.parameters, due.done1, due.done1);
    Check.same("DONE twice", Desks.take(done1, 0, 1, twice), 266);
    Check.same("finished", done1.look(0, 2), 1);
    Check.sameBytes("DONE", Desks.sent(done1, 0, 1), due.done0);
    GreetDesk done0 = Desks.after(3);
    Check.same("DONE and a byte", Desks.take(done0, 1, 1, Oracle.join(due.done0, new int[] {0})), 266);
    Check.same("finished", done0.look(1, 2), 1);
    GreetDesk full = Desks.begun();
    Check.same("a full tape", Desks.take(full, 1, 0, Oracle.message(1, Desks.row(2044, 0))), 306);
    Check.same("tape", full.wipe(), 0);
  }

  private static void wrongInputs() {
    GreetDesk desk = Desks.told();
    Desks.feed(desk, 1, 2);
    Desks.unchanged("not begun", IllegalStateException.class, desk, 2, () -> desk.take(0, 0));
    Desks.unchanged("argument first", IllegalArgumentException.class, desk, 0, () -> desk.take(0, 2));
    desk.begin(0);
    desk.begin(1);
    for (int bad : new int[] {-1, 2, Integer.MIN_VALUE, Integer.MAX_VALUE}) {
      GreetDesk begun = Desks.begun();
      Desks.feed(begun, 1);
      Desks.unchanged("side " + bad, IllegalArgumentException.class, begun, 1, () -> begun.take(bad, 0));
      Desks.feed(begun, 1);
      Desks.unchanged("level " + bad, IllegalArgumentException.class, begun, 1, () -> begun.take(1, bad));
    }
    Check.same("a fault", Desks.take(desk, 1, 0, 9), 266);
    Check.same("tape behind a fault", desk.wipe(), 0);
    Desks.feed(desk, 1, 2, 3);
    Desks.unchanged("had a fault", IllegalStateException.class, desk, 3, () -> desk.take(1, 0));
    Desks.unchanged("had a fault, argument first", IllegalArgumentException.class, desk, 0, () -> desk.take(1, -1));
    Check.same("the other side goes on", Desks.take(desk, 0, 0, Desks.oracle().answer), 0);
  }
}
