import java.util.Arrays;

/** The messages of a greeting and their order, sentence by sentence. */
public final class GreetingTest {
  private static final String PLACE = "Promises 5 to 9, Terms";

  public static void main(String[] args) {
    hello();
    answer();
    parameters();
    done();
    askerHearsAnswer();
    askerHearsParameters();
    askerHearsDone();
    answererHearsHello();
    answererHearsDone();
    bothComeToTheSame();
    inTwoPieces();
    byteByByte();
    twoMessagesInAPiece();
    takenAndCarried();
    waits();
    Check.close();
  }

  private static void hello() {
    Check.sentence(PLACE, "1 HELLO, at level 0 by side 0: random bytes, parameters");
    Check.sameBytes("by side 0", Desks.sent(Desks.begun(), 0, 0), Desks.oracle().hello);
    Check.same("not at level 1", Desks.begun().look(0, 5), 0);
    for (int size : new int[] {0, 300}) {
      GreetDesk desk = Desks.told(Desks.KEY, Desks.KEY, Desks.row(size, 1), Desks.PARAMETERS1);
      desk.begin(0);
      int[] due = Oracle.message(1, Oracle.join(Desks.RANDOM0, Desks.row(size, 1)));
      Check.sameBytes("with " + size, Desks.sent(desk, 0, 0), due);
    }
  }

  private static void answer() {
    Check.sentence(PLACE, "2 ANSWER, at level 0 by side 1: random bytes");
    Check.sameBytes("by side 1", Desks.sent(Desks.after(1), 1, 0), Desks.oracle().answer);
    Check.same("not before HELLO", Desks.after(0).look(1, 4), 0);
  }

  private static void parameters() {
    Check.sentence(PLACE, "8 PARAMETERS, at level 1 by side 1: those");
    for (int size : new int[] {0, 1, 299, 300}) {
      GreetDesk desk = Desks.greeted(Desks.PARAMETERS0, Desks.row(size, 1));
      int[] sent = Desks.sent(desk, 1, 1);
      Check.sameBytes("with " + size, Arrays.copyOf(sent, 4 + size), Oracle.message(8, Desks.row(size, 1)));
    }
  }

  private static void done() {
    Check.sentence(PLACE, "20 DONE, at level 1 by either side: its PROOF, 32 bytes");
    int[] sent = Desks.sent(Desks.after(1), 1, 1);
    Check.sameBytes("by side 1", Arrays.copyOfRange(sent, 9, sent.length), Desks.oracle().done1);
    Check.sameBytes("by side 0", Desks.sent(Desks.after(3), 0, 1), Desks.oracle().done0);
  }

  private static void askerHearsAnswer() {
    Check.sentence(PLACE, "waits for ANSWER; with that it has the greet secrets; then it waits for PARAMETERS");
    GreetDesk desk = Desks.begun(0);
    Check.same("but a byte", Desks.take(desk, 0, 0, Arrays.copyOf(Desks.oracle().answer, 35)), 0);
    Check.same("no secrets", desk.look(0, 9), -1);
    Check.same("ANSWER", Desks.take(desk, 0, 0, Desks.oracle().answer[35]), 0);
    int[] due = {8, 1, 0, 0, 39, 0, 0, 0, -1, 1, 0, 0};
    Check.sameBytes("looks", Arrays.copyOf(Desks.looks(desk), 12), due);
    Check.sameBytes("greet of 0", Desks.secret(desk, 0, 1, 0), Desks.oracle().greet[0]);
    Check.sameBytes("greet of 1", Desks.secret(desk, 0, 1, 1), Desks.oracle().greet[1]);
  }

  private static void askerHearsParameters() {
    Check.sentence(PLACE, "then it waits for PARAMETERS, then for DONE");
    for (int size : new int[] {0, 1, 300}) {
      GreetDesk desk = Desks.after(2);
      Check.same("PARAMETERS", Desks.take(desk, 0, 1, Oracle.message(8, Desks.row(size, 1))), 0);
      int[] due = {20, 1, 0, 0, 39, 0, 0, 0, size, 1, 39, 0};
      Check.sameBytes("looks", Arrays.copyOf(Desks.looks(desk), 12), due);
    }
  }

  private static void askerHearsDone() {
    Check.sentence(PLACE, "with that it has the talk secrets, sends DONE, and is FINISHED");
    GreetDesk desk = Desks.after(2);
    Check.same("but a byte", desk.carry(1, 1, 44), 0);
    int[] before = {20, 1, 0, 0, 39, 0, 0, 35, 5, 1, 39, 0};
    Check.sameBytes("looks", Arrays.copyOf(Desks.looks(desk), 12), before);
    Check.same("DONE", desk.carry(1, 1, 1), 0);
    int[] due = {0, 1, 1, 0, 39, 36, 0, 0, 5, 2, 39, 0};
    Check.sameBytes("looks", Arrays.copyOf(Desks.looks(desk), 12), due);
    Check.sameBytes("talk of 0", Desks.secret(desk, 0, 2, 0), Desks.oracle().talk[0]);
    Check.sameBytes("talk of 1", Desks.secret(desk, 0, 2, 1), Desks.oracle().talk[1]);
    Check.sameBytes("DONE", Desks.sent(desk, 0, 1), Desks.oracle().done0);
  }

  private static void answererHearsHello() {
    Check.sentence(PLACE,
        "with that it sends ANSWER, PARAMETERS and DONE, has the greet and the talk secrets, and waits for DONE");
    GreetDesk desk = Desks.begun(1);
    int[] hello = Desks.oracle().hello;
    Check.same("but a byte", Desks.take(desk, 1, 0, Arrays.copyOf(hello, 38)), 0);
    int[] before = {1, 1, 0, 0, 0, 0, 38, 0, -1, -1, 0, 0};
    Check.sameBytes("looks", Arrays.copyOfRange(Desks.looks(desk), 12, 24), before);
    Check.same("HELLO", Desks.take(desk, 1, 0, hello[38]), 0);
    int[] due = {20, 1, 0, 0, 36, 45, 0, 0, 3, 2, 0, 0};
    Check.sameBytes("looks", Arrays.copyOfRange(Desks.looks(desk), 12, 24), due);
    for (int of = 0; of < 2; of++) {
      Check.sameBytes("greet", Desks.secret(desk, 1, 1, of), Desks.oracle().greet[of]);
      Check.sameBytes("talk", Desks.secret(desk, 1, 2, of), Desks.oracle().talk[of]);
    }
  }

  private static void answererHearsDone() {
    Check.sentence(PLACE, "and waits for DONE; with that it is FINISHED");
    GreetDesk desk = Desks.after(3);
    Check.same("but a byte", desk.carry(0, 1, 35), 0);
    int[] before = {20, 1, 0, 0, 36, 45, 0, 35, 3, 2, 36, 45};
    Check.sameBytes("looks", Arrays.copyOfRange(Desks.looks(desk), 12, 24), before);
    Check.same("DONE", desk.carry(0, 1, 1), 0);
    int[] due = {0, 1, 1, 0, 36, 45, 0, 0, 3, 2, 36, 45};
    Check.sameBytes("looks", Arrays.copyOfRange(Desks.looks(desk), 12, 24), due);
  }

  private static void bothComeToTheSame() {
    Check.sentence("What it is", "both come to the same secrets, level by level");
    GreetDesk desk = Desks.after(4);
    for (int level = 1; level < 3; level++) {
      for (int of = 0; of < 2; of++) {
        Check.sameBytes("level " + level, Desks.secret(desk, 0, level, of), Desks.secret(desk, 1, level, of));
      }
    }
  }

  private static void inTwoPieces() {
    Check.sentence(PLACE, "Bytes come at a level in order, in any pieces");
    int[][] ways = {{0, 0}, {1, 0}, {1, 1}, {0, 1}};
    for (int step = 0; step < 4; step++) {
      int size = Desks.after(step).look(ways[step][0], 4 + ways[step][1]);
      for (int cut = 1; cut < size; cut++) {
        GreetDesk desk = Desks.after(step);
        Check.same("the first " + cut, desk.carry(ways[step][0], ways[step][1], cut), 0);
        for (int rest = step; rest < 4; rest++) {
          Check.same("step " + rest + " behind a cut at " + cut, Desks.step(desk, rest), 0);
        }
        Check.sameBytes("looks", Desks.looks(desk), Desks.looks(Desks.after(4)));
        Check.sameBytes("DONE", Desks.sent(desk, 0, 1), Desks.oracle().done0);
      }
    }
  }

  private static void byteByByte() {
    Check.sentence(PLACE, "in any pieces; what is no whole message yet waits");
    GreetDesk desk = Desks.told(Desks.KEY, Desks.KEY, Desks.row(300, 1), Desks.PARAMETERS1);
    desk.begin(0);
    desk.begin(1);
    for (int i = 0; i < 336; i++) {
      Check.same("byte " + i, desk.carry(0, 0, 1), 0);
    }
    for (int i = 1; i < 4; i++) {
      Check.same("step " + i, Desks.step(desk, i), 0);
    }
    Oracle due = new Oracle(Desks.KEY, Desks.RANDOM0, Desks.row(300, 1), Desks.RANDOM1, Desks.PARAMETERS1);
    Check.sameBytes("DONE", Desks.sent(desk, 0, 1), due.done0);
    GreetDesk taker = Desks.begun(1);
    for (int i = 0; i < 39; i++) {
      Check.same("waits", taker.look(1, 6), i);
      Check.same("byte " + i, Desks.take(taker, 1, 0, Desks.oracle().hello[i]), 0);
    }
    Check.same("waits no more", taker.look(1, 6), 0);
    Check.sameBytes("ANSWER", Desks.sent(taker, 1, 0), Desks.oracle().answer);
  }

  private static void twoMessagesInAPiece() {
    Check.sentence(PLACE, "FAULTS, looked at as bytes come, message by message");
    GreetDesk desk = Desks.after(2);
    Oracle due = Desks.oracle();
    Check.same("PARAMETERS and DONE", Desks.take(desk, 0, 1, Oracle.join(due.parameters, due.done1)), 0);
    Check.same("finished", desk.look(0, 2), 1);
    GreetDesk none = Desks.told(Desks.KEY, Desks.KEY, new int[0], new int[0]);
    none.begin(0);
    none.begin(1);
    Desks.step(none, 0);
    Desks.step(none, 1);
    Check.same("PARAMETERS without a body and a byte of DONE", none.carry(1, 1, 5), 0);
    Check.same("waits", none.look(0, 7), 1);
    Check.same("the rest", none.carry(1, 1, 35), 0);
    Check.same("finished", none.look(0, 2), 1);
  }

  private static void takenAndCarried() {
    Check.sentence(PLACE, "Bytes come at a level in order");
    int[] hello = Desks.oracle().hello;
    GreetDesk desk = Desks.begun();
    Check.same("carried", desk.carry(0, 0, 10), 0);
    Check.same("taken", Desks.take(desk, 1, 0, Arrays.copyOfRange(hello, 10, 39)), 0);
    Check.sameBytes("ANSWER", Desks.sent(desk, 1, 0), Desks.oracle().answer);
    Check.sameBytes("rest", Desks.sent(desk, 1, 1), Oracle.join(Desks.oracle().parameters, Desks.oracle().done1));
    Check.same("the next ones are the sender's, not the line's", desk.look(0, 10), 10);
    Check.same("and no one waits for them", desk.carry(0, 0, 29), 266);
  }

  private static void waits() {
    Check.sentence(PLACE, "what is no whole message yet waits");
    GreetDesk desk = Desks.begun();
    Check.same("the greatest part of the largest HELLO",
        Desks.take(desk, 1, 0, Arrays.copyOf(Oracle.message(1, Desks.row(332, 1)), 335)), 0);
    Check.same("waits", desk.look(1, 6), 335);
    Check.same("for HELLO", desk.look(1, 0), 1);
    Check.same("nothing is sent", desk.look(1, 4) + desk.look(1, 5), 0);
    Check.same("its last byte", Desks.take(desk, 1, 0, Desks.row(332, 1)[331]), 0);
    Check.same("waits", desk.look(1, 6), 0);
    Check.same("ANSWER is sent", desk.look(1, 4), 36);
  }
}
