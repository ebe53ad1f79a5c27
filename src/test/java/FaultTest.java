import java.util.Arrays;

/** The faults, sentence by sentence: when each is looked at, and what comes behind it. */
public final class FaultTest {
  private static final String PLACE = "Promises 6 and 7, Terms";
  private static final int[] ANSWERED = {8, 1, 0, 0, 39, 0, 0, 0, -1, 1, 39, 0};
  /** What each side waits for behind 0 .. 4 steps. */
  private static final int[][] WANTED = {{2, 2, 8, 0, 0}, {1, 20, 20, 20, 0}};

  public static void main(String[] args) {
    typeNotWaitedFor();
    typeAsSoonAsTheByteIsThere();
    anyByteAtAnotherLevel();
    anyByteWhenNothingIsWaitedFor();
    sizeOfHello();
    sizeOfAnswer();
    sizeOfParameters();
    sizeOfDone();
    sizeAsSoonAsFourBytesAreThere();
    wrongProofs();
    proofOfAnotherGreeting();
    firstOneCounts();
    nothingWaitsThen();
    nothingIsTakenFromThenOn();
    behindTheLastMessage();
    behindTheLastMessageOfALevel();
    Check.close();
  }

  private static void typeNotWaitedFor() {
    Check.sentence(PLACE, "266 a type that is not the one waited for at this level");
    for (int steps = 0; steps < 5; steps++) {
      for (int side = 0; side < 2; side++) {
        int wanted = WANTED[side][steps];
        for (int type = 0; type < 256; type++) {
          for (int level = 0; level < 2; level++) {
            boolean right = wanted != 0 && type == wanted && level == (wanted < 8 ? 0 : 1);
            GreetDesk desk = Desks.after(steps);
            String what = "type " + type + " at " + level + " behind " + steps;
            Check.same(what, Desks.take(desk, side, level, type), right ? 0 : 266);
            Check.same(what + ", fault", desk.look(side, 3), right ? 0 : 266);
          }
        }
      }
    }
  }

  private static void typeAsSoonAsTheByteIsThere() {
    Check.sentence(PLACE, "(as soon as the byte is there");
    GreetDesk first = Desks.begun();
    Check.same("one byte", Desks.take(first, 1, 0, 2), 266);
    GreetDesk second = Desks.after(2);
    Check.same("PARAMETERS", Desks.take(second, 0, 1, Desks.oracle().parameters), 0);
    Check.same("PARAMETERS again, one byte", Desks.take(second, 0, 1, 8), 266);
    GreetDesk together = Desks.after(2);
    int[] piece = Oracle.join(Desks.oracle().parameters, new int[] {8});
    Check.same("PARAMETERS and one byte", Desks.take(together, 0, 1, piece), 266);
    Check.same("the parameters are known", together.look(0, 8), 5);
  }

  private static void anyByteAtAnotherLevel() {
    Check.sentence(PLACE, "any byte at a level at which nothing is waited for now");
    for (int b : new int[] {0, 1, 2, 8, 20, 128, 255}) {
      for (int side = 0; side < 2; side++) {
        Check.same("level 1 at first", Desks.take(Desks.begun(), side, 1, b), 266);
        Check.same("level 0 later", Desks.take(Desks.after(2), side, 0, b), 266);
        GreetDesk half = Desks.begun();
        Check.same("half a message", Desks.take(half, side, 0, 2 - side, 0, 0), 0);
        Check.same("then the other level", Desks.take(half, side, 1, b), 266);
      }
      GreetDesk half = Desks.after(2);
      Check.same("half of PARAMETERS", half.carry(1, 1, 6), 0);
      Check.same("then level 0", Desks.take(half, 0, 0, b), 266);
    }
  }

  private static void anyByteWhenNothingIsWaitedFor() {
    Check.sentence(PLACE, "any byte at a level at which nothing is waited for now)");
    for (int b = 0; b < 256; b++) {
      for (int side = 0; side < 2; side++) {
        for (int level = 0; level < 2; level++) {
          GreetDesk desk = Desks.after(4);
          Check.same("finished, byte " + b, Desks.take(desk, side, level, b), 266);
          Check.same("still finished", desk.look(side, 2), 1);
        }
      }
    }
  }

  private static void sizeOfHello() {
    Check.sentence(PLACE, "306 a size that is not as said (HELLO 32 .. 332");
    sizes(0, 1, 1, 0, 32, 332);
    for (int size : new int[] {32, 33, 331, 332}) {
      GreetDesk desk = Desks.begun();
      int[] body = Desks.row(size, 99);
      Check.same("HELLO of " + size, Desks.take(desk, 1, 0, Oracle.message(1, body)), 0);
      Check.sameBytes("parameters", Desks.theirs(desk, 1), Arrays.copyOfRange(body, 32, size));
    }
  }

  private static void sizeOfAnswer() {
    Check.sentence(PLACE, "306 a size that is not as said .. 2 ANSWER, at level 0 by side 1: random bytes");
    sizes(0, 0, 2, 0, 32, 32);
  }

  private static void sizeOfParameters() {
    Check.sentence(PLACE, "306 a size that is not as said .. PARAMETERS, 0 to 300 bytes");
    sizes(2, 0, 8, 1, 0, 300);
    for (int size : new int[] {0, 1, 299, 300}) {
      GreetDesk desk = Desks.after(2);
      Check.same("PARAMETERS of " + size, Desks.take(desk, 0, 1, Oracle.message(8, Desks.row(size, 99))), 0);
      Check.sameBytes("parameters", Desks.theirs(desk, 0), Desks.row(size, 99));
    }
  }

  private static void sizeOfDone() {
    Check.sentence(PLACE, "306 a size that is not as said .. its PROOF, 32 bytes");
    sizes(1, 1, 20, 1, 32, 32);
    for (int size : new int[] {0, 31, 33, 288, 65568}) {
      GreetDesk desk = Desks.after(2);
      Check.same("PARAMETERS", desk.carry(1, 1, 9), 0);
      Check.same("DONE of " + size, Desks.take(desk, 0, 1, 20, size >>> 16, size >>> 8 & 255, size & 255), 306);
    }
  }

  /** Every size up to 700, and others that have their lowest bytes right. */
  private static void sizes(int steps, int side, int type, int level, int least, int most) {
    for (int size = 0; size <= 700; size++) {
      size(steps, side, type, level, size, size >= least && size <= most);
    }
    for (int high : new int[] {1, 2, 127, 128, 255}) {
      for (int low : new int[] {0, least, most, 32}) {
        size(steps, side, type, level, high << 16 | low, false);
        size(steps, side, type, level, high << 8 | 0x800 | low, false);
      }
    }
    size(steps, side, type, level, 0xffffff, false);
  }

  private static void size(int steps, int side, int type, int level, int size, boolean right) {
    GreetDesk desk = Desks.after(steps);
    int[] head = {type, size >>> 16, size >>> 8 & 255, size & 255};
    Check.same("type " + type + " of " + size, Desks.take(desk, side, level, head), right ? 0 : 306);
    Check.same("fault", desk.look(side, 3), right ? 0 : 306);
    Check.same("waits", desk.look(side, 6 + level), right && size > 0 ? 4 : 0);
  }

  private static void sizeAsSoonAsFourBytesAreThere() {
    Check.sentence(PLACE, "as soon as the four bytes are there");
    int[][] cases = {{0, 1, 1, 0}, {0, 0, 2, 0}, {2, 0, 8, 1}, {1, 1, 20, 1}};
    for (int[] c : cases) {
      for (int size : new int[] {0x010000, 0x0200, 0xff0020, 0xffffff}) {
        GreetDesk desk = Desks.after(c[0]);
        Check.same("type " + c[2], Desks.take(desk, c[1], c[3], c[2]), 0);
        Check.same("the highest byte", Desks.take(desk, c[1], c[3], size >>> 16), 0);
        Check.same("the next", Desks.take(desk, c[1], c[3], size >>> 8 & 255), 0);
        Check.same("three wait", desk.look(c[1], 6 + c[3]), 3);
        Check.same("no fault yet", desk.look(c[1], 3), 0);
        Check.same("the lowest", Desks.take(desk, c[1], c[3], size & 255), 306);
      }
    }
  }

  private static void wrongProofs() {
    Check.sentence(PLACE, "307 a proof that is not the right one");
    for (int bad = 4; bad < 36; bad++) {
      int[] done1 = Desks.oracle().done1.clone();
      done1[bad] ^= 1 << bad % 8;
      GreetDesk desk = Desks.after(2);
      Check.same("PARAMETERS", desk.carry(1, 1, 9), 0);
      Check.same("DONE but for a byte", Desks.take(desk, 0, 1, Arrays.copyOf(done1, 35)), 0);
      Check.same("DONE of side 1, wrong at " + bad, Desks.take(desk, 0, 1, done1[35]), 307);
      int[] side0 = {0, 1, 0, 307, 39, 0, 0, 0, 5, 1, 39, 0};
      Check.sameBytes("looks", Arrays.copyOf(Desks.looks(desk), 12), side0);

      int[] done0 = Desks.oracle().done0.clone();
      done0[bad] ^= 128 >> bad % 8;
      GreetDesk other = Desks.after(3);
      Check.same("DONE but for a byte", Desks.take(other, 1, 1, Arrays.copyOf(done0, 35)), 0);
      Check.same("DONE of side 0, wrong at " + bad, Desks.take(other, 1, 1, done0[35]), 307);
      int[] side1 = {0, 1, 0, 307, 36, 45, 0, 0, 3, 2, 36, 45};
      Check.sameBytes("looks", Arrays.copyOfRange(Desks.looks(other), 12, 24), side1);
    }
  }

  private static void proofOfAnotherGreeting() {
    Check.sentence(PLACE, "A PROOF: the MAC under (label 10, without context, of the greet secret of its side)");
    Oracle due = Desks.oracle();
    Check.same("side 1's own proof comes back", Desks.take(Desks.after(1), 1, 1, due.done1), 307);
    GreetDesk desk = Desks.after(2);
    Check.same("PARAMETERS", desk.carry(1, 1, 9), 0);
    Check.same("the proof of side 0 comes to it", Desks.take(desk, 0, 1, due.done0), 307);
    GreetDesk changed = Desks.after(2);
    int[] others = Oracle.message(8, new int[] {0, 128, 9, 200, 6});
    Check.same("PARAMETERS with another byte", Desks.take(changed, 0, 1, others), 0);
    Check.same("are not those of the proof", Desks.take(changed, 0, 1, due.done1), 307);
    for (int side = 0; side < 2; side++) {
      int[] other = Desks.row(32, 12);
      int[] last = Desks.KEY.clone();
      last[31] ^= 1;
      for (int[] key : new int[][] {other, last}) {
        GreetDesk keys = Desks.told(side == 0 ? key : Desks.KEY, side == 1 ? key : Desks.KEY, Desks.PARAMETERS0,
            Desks.PARAMETERS1);
        keys.begin(0);
        keys.begin(1);
        Check.same("HELLO", Desks.step(keys, 0), 0);
        Check.same("ANSWER", Desks.step(keys, 1), 0);
        Check.same("with another key", Desks.step(keys, 2), 307);
      }
    }
    GreetDesk hello = Desks.begun();
    int[] body = Oracle.join(Desks.RANDOM0, new int[] {1, 2, 254});
    Check.same("HELLO with another byte", Desks.take(hello, 1, 0, Oracle.message(1, body)), 0);
    Check.same("ANSWER", Desks.step(hello, 1), 0);
    Check.same("is not that of the proof", Desks.step(hello, 2), 307);
  }

  private static void firstOneCounts() {
    Check.sentence(PLACE, "the first one counts");
    Oracle due = Desks.oracle();
    Check.same("type, then size", Desks.take(Desks.begun(), 1, 0, 2, 0, 0, 31), 266);
    Check.same("size, then type", Desks.take(Desks.begun(), 1, 0, 1, 0, 0, 31, 2), 306);
    int[] wrong = Oracle.message(20, new int[32]);
    Check.same("proof, then type", Desks.take(Desks.after(1), 1, 1, Oracle.join(wrong, new int[] {1})), 307);
    Check.same("proof, then size", Desks.take(Desks.after(1), 1, 1, Oracle.join(wrong, new int[] {20, 0, 0, 31})), 307);
    Check.same("size, then proof", Desks.take(Desks.after(1), 1, 1, Oracle.join(new int[] {20, 0, 0, 33}, wrong)), 306);
    GreetDesk second = Desks.after(2);
    int[] size = Oracle.join(due.parameters, new int[] {20, 0, 0, 31, 9});
    Check.same("the second message", Desks.take(second, 0, 1, size), 306);
    Check.same("the first one was read", second.look(0, 8), 5);
    GreetDesk proof = Desks.after(2);
    Check.same("the second message", Desks.take(proof, 0, 1, Oracle.join(due.parameters, wrong, new int[] {9})), 307);
    Check.same("look", proof.look(0, 3), 307);
    GreetDesk type = Desks.after(2);
    Check.same("the first message", Desks.take(type, 0, 1, Oracle.join(new int[] {8, 0, 1, 45}, due.done1)), 306);
    Check.same("no parameters", type.look(0, 8), -1);
  }

  private static void nothingWaitsThen() {
    Check.sentence(PLACE, "the first one counts, nothing waits then");
    for (int side = 0; side < 2; side++) {
      GreetDesk level = Desks.begun();
      Check.same("half a message", Desks.take(level, side, 0, 2 - side, 0, 0), 0);
      Check.same("three wait", level.look(side, 6), 3);
      Check.same("a byte at the other level", Desks.take(level, side, 1, 20), 266);
      quiet(level, side);
      GreetDesk size = Desks.begun();
      Check.same("a wrong size and more", Desks.take(size, side, 0, 2 - side, 0, 0, 31, 5, 6), 306);
      quiet(size, side);
      GreetDesk type = Desks.begun();
      Check.same("a wrong type and more", Desks.take(type, side, 0, 9, 0, 0, 31, 5, 6), 266);
      quiet(type, side);
    }
    GreetDesk proof = Desks.after(1);
    Check.same("a wrong proof and more", Desks.take(proof, 1, 1, Oracle.message(20, new int[32])), 307);
    quiet(proof, 1);
    GreetDesk half = Desks.after(2);
    Check.same("half of DONE", half.carry(1, 1, 20), 0);
    Check.same("waits", half.look(0, 7), 11);
    Check.same("a byte at level 0", Desks.take(half, 0, 0, 2), 266);
    quiet(half, 0);
  }

  private static void quiet(GreetDesk desk, int side) {
    Check.same("waits for nothing", desk.look(side, 0), 0);
    Check.same("bytes that wait at level 0", desk.look(side, 6), 0);
    Check.same("bytes that wait at level 1", desk.look(side, 7), 0);
  }

  private static void nothingIsTakenFromThenOn() {
    Check.sentence(PLACE, "nothing waits then, and nothing is taken from then on");
    Oracle due = Desks.oracle();
    GreetDesk hello = Desks.begun();
    Check.same("a byte, then HELLO", Desks.take(hello, 1, 0, Oracle.join(new int[] {0}, due.hello)), 266);
    int[] side1 = {0, 1, 0, 266, 0, 0, 0, 0, -1, -1, 0, 0};
    Check.sameBytes("looks", Arrays.copyOfRange(Desks.looks(hello), 12, 24), side1);
    GreetDesk answer = Desks.after(1);
    int[] head = {2, 0, 0, 31};
    Check.same("a wrong head, then ANSWER", Desks.take(answer, 0, 0, Oracle.join(head, due.answer)), 306);
    int[] side0 = {0, 1, 0, 306, 39, 0, 0, 0, -1, -1, 39, 0};
    Check.sameBytes("looks", Arrays.copyOf(Desks.looks(answer), 12), side0);
    GreetDesk done = Desks.after(1);
    Check.same("a wrong proof, then DONE",
        Desks.take(done, 1, 1, Oracle.join(Oracle.message(20, new int[32]), due.done0)), 307);
    Check.same("not finished", done.look(1, 2), 0);
    Refused.state(() -> Desks.faulty(0, 1), Act.carry(0, 0, 39), Act.carry(0, 0, 1), Act.take(1, 0), Act.take(1, 1));
    Refused.state(() -> Desks.faulty(1, 0), Act.carry(1, 0, 36), Act.carry(1, 1, 45), Act.take(0, 0), Act.take(0, 1));
    Refused.state(Desks.with(() -> Desks.faulty(0, 1), due.hello), Act.take(1, 0));
  }

  private static void behindTheLastMessage() {
    Check.sentence(PLACE, "What comes behind the last message waited for in the same piece is looked at likewise");
    Oracle due = Desks.oracle();
    for (int b = 0; b < 256; b++) {
      GreetDesk asker = Desks.after(2);
      int[] piece = Oracle.join(due.parameters, due.done1, new int[] {b});
      Check.same("DONE of side 1 and " + b, Desks.take(asker, 0, 1, piece), 266);
      int[] side0 = {0, 1, 1, 266, 39, 36, 0, 0, 5, 2, 39, 0};
      Check.sameBytes("looks", Arrays.copyOf(Desks.looks(asker), 12), side0);
      GreetDesk answerer = Desks.after(3);
      Check.same("DONE of side 0 and " + b, Desks.take(answerer, 1, 1, Oracle.join(due.done0, new int[] {b})), 266);
      int[] side1 = {0, 1, 1, 266, 36, 45, 0, 0, 3, 2, 36, 45};
      Check.sameBytes("looks", Arrays.copyOfRange(Desks.looks(answerer), 12, 24), side1);
    }
    GreetDesk twice = Desks.after(2);
    Check.same("DONE twice", Desks.take(twice, 0, 1, Oracle.join(due.parameters, due.done1, due.done1)), 266);
    Check.sameBytes("DONE is sent once", Desks.sent(twice, 0, 1), due.done0);
    GreetDesk carried = Desks.after(3);
    Check.same("DONE is carried", carried.carry(0, 1, 36), 0);
    Check.same("a later byte", Desks.take(carried, 1, 1, 20), 266);
  }

  private static void behindTheLastMessageOfALevel() {
    Check.sentence(PLACE, "any byte at a level at which nothing is waited for now); .. in the same piece");
    Oracle due = Desks.oracle();
    for (int b : new int[] {0, 1, 2, 8, 20, 255}) {
      GreetDesk hello = Desks.begun();
      Check.same("HELLO and " + b, Desks.take(hello, 1, 0, Oracle.join(due.hello, new int[] {b})), 266);
      int[] side1 = {0, 1, 0, 266, 36, 45, 0, 0, 3, 2, 0, 0};
      Check.sameBytes("looks", Arrays.copyOfRange(Desks.looks(hello), 12, 24), side1);
      GreetDesk answer = Desks.after(1);
      Check.same("ANSWER and " + b, Desks.take(answer, 0, 0, Oracle.join(due.answer, new int[] {b})), 266);
      int[] side0 = ANSWERED.clone();
      side0[0] = 0;
      side0[3] = 266;
      Check.sameBytes("looks", Arrays.copyOf(Desks.looks(answer), 12), side0);
    }
  }
}
