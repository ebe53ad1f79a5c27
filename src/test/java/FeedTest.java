/** Promise 2, sentence by sentence. */
public final class FeedTest {
  private static final String PLACE = "Promise 2";

  public static void main(String[] args) {
    lowestBytesLowestFirst();
    behindTheTape();
    howManyItHas();
    nIsOneToEight();
    atMost2048();
    fullWithEveryByte();
    argumentFirst();
    Check.close();
  }

  /** Parameters show the tape's bytes, in the HELLO behind the random bytes. */
  private static void lowestBytesLowestFirst() {
    Check.sentence(PLACE, "The n lowest bytes of v, lowest first");
    long[] values = {0, 1, 255, 256, -1, -256, 0x8182838485868788L, 0x0102030405060708L, 0xffffffff00000000L,
      0x00000000ffffffffL, Integer.MIN_VALUE, Integer.MAX_VALUE, Long.MIN_VALUE, Long.MAX_VALUE};
    for (int n = 1; n <= 8; n++) {
      for (long v : values) {
        int[] due = new int[n];
        for (int i = 0; i < n; i++) {
          due[i] = (int) Math.floorMod(Math.floorDiv(v, 1L << Math.min(8 * i, 62)), 256L);
        }
        if (n == 8) {
          due[7] = (int) (v >> 56) & 255;
        }
        Check.sameBytes("feed(" + n + ", " + v + ")", shown(Act.feed(n, v)), due);
      }
    }
  }

  private static void behindTheTape() {
    Check.sentence(PLACE, "come behind the tape");
    int[] due = {1, 0x33, 0x22, 255, 0, 8, 7, 6, 5, 4, 3, 2, 1, 9};
    Check.sameBytes("several feeds", shown(Act.feed(1, 1), Act.feed(2, 0x112233), Act.feed(2, 255),
        Act.feed(8, 0x0102030405060708L), Act.feed(1, 9)), due);
  }

  private static void howManyItHas() {
    Check.sentence(PLACE, "how many it has");
    GreetDesk desk = new GreetDesk();
    int due = 0;
    for (int round = 0; round < 3; round++) {
      for (int n = 1; n <= 8; n++) {
        due += n;
        Check.same("feed " + n, desk.feed(n, -1L), due);
      }
    }
    desk.wipe();
    Check.same("behind wipe", desk.feed(2, 0), 2);
  }

  private static void nIsOneToEight() {
    Check.sentence(PLACE, "Throws IllegalArgumentException when n is not 1 .. 8");
    Check.same("feed(1, 0)", new GreetDesk().feed(1, 0), 1);
    Check.same("feed(8, 0)", new GreetDesk().feed(8, 0), 8);
    int[] wrong = {0, 9, -1, 10, 16, -8, 257, Integer.MIN_VALUE, Integer.MIN_VALUE + 1, Integer.MAX_VALUE};
    for (int n : wrong) {
      Refused.argument(GreetDesk::new, Act.feed(n, 1));
      Refused.argument(Desks.with(GreetDesk::new, 5, 6, 7), Act.feed(n, 1));
    }
  }

  private static void atMost2048() {
    Check.sentence(PLACE, "IllegalStateException when it would have more than 2048");
    for (int n = 1; n <= 8; n++) {
      Check.same("to the brim by " + n, filled(2048 - n).feed(n, 3), 2048);
      int size = 2049 - n;
      Refused.state(() -> filled(size), Act.feed(n, 3));
      Refused.state(() -> filled(2048), Act.feed(n, -1));
    }
    Check.same("one byte", filled(2047).feed(1, 0), 2048);
    GreetDesk desk = filled(2048);
    Check.same("wipe", desk.wipe(), 2048);
    Check.same("there is room again", desk.feed(8, 0), 8);
  }

  /** A full tape has its last byte too: message by message it comes to a side as it was fed. */
  private static void fullWithEveryByte() {
    Check.sentence(PLACE + ", Terms", "The TAPE has at most 2048 bytes");
    GreetDesk desk = filled(2047);
    desk.feed(1, 255);
    Check.same("wipe", desk.wipe(), 2048);
    int[] hello = Oracle.message(1, Desks.row(332, 9));
    GreetDesk taker = Desks.begun(1);
    Desks.feed(taker, Oracle.join(hello, new int[2048 - hello.length]));
    Check.same("what comes behind HELLO", taker.take(1, 0), 266);
    Check.same("its last byte was read", taker.theirs(1, 299), hello[335]);
    Check.same("the tape is empty", taker.wipe(), 0);
  }

  private static void argumentFirst() {
    Check.sentence(PLACE + ", Terms", "Of several exceptions the first one told is thrown");
    for (int n : new int[] {0, 9, -1, Integer.MIN_VALUE, Integer.MAX_VALUE}) {
      Refused.argument(() -> filled(2048), Act.feed(n, 0));
    }
    Refused.argument(() -> filled(2041), Act.feed(9, 0));
  }

  private static GreetDesk filled(int size) {
    GreetDesk desk = new GreetDesk();
    Desks.feed(desk, Desks.row(size, 1));
    return desk;
  }

  private static int[] shown(Act... feeds) {
    GreetDesk desk = new GreetDesk();
    Desks.tell(desk, 0, 0, Desks.KEY);
    Desks.tell(desk, 0, 1, Desks.RANDOM0);
    for (Act feed : feeds) {
      feed.outcome(desk);
    }
    desk.tell(0, 2);
    desk.begin(0);
    int[] hello = Desks.sent(desk, 0, 0);
    return java.util.Arrays.copyOfRange(hello, 36, hello.length);
  }
}
