/** Promises 2 and 3. */
public final class FeedWipeTest {
  public static void main(String[] args) {
    sizes();
    lowestFirst();
    wrongInputs();
    Check.close();
  }

  private static void sizes() {
    GreetDesk desk = new GreetDesk();
    int due = 0;
    for (int n = 1; n <= 8; n++) {
      due += n;
      Check.same("feed " + n, desk.feed(n, -1L), due);
    }
    Check.same("wipe", desk.wipe(), due);
    Check.same("wipe again", desk.wipe(), 0);
    Check.same("feed behind wipe", desk.feed(2, 0), 2);
  }

  /** Parameters show the tape's bytes, in the HELLO behind the random bytes. */
  private static void lowestFirst() {
    GreetDesk desk = new GreetDesk();
    Desks.tell(desk, 0, 0, Desks.KEY);
    Desks.tell(desk, 0, 1, Desks.RANDOM0);
    desk.feed(8, 0xf1e2d3c4b5a69788L);
    desk.feed(3, 0xffffffff00818283L);
    desk.feed(1, -1L);
    desk.feed(1, 256L);
    desk.tell(0, 2);
    desk.begin(0);
    int[] due = {0x88, 0x97, 0xa6, 0xb5, 0xc4, 0xd3, 0xe2, 0xf1, 0x83, 0x82, 0x81, 255, 0};
    Check.sameBytes("HELLO", Desks.sent(desk, 0, 0), Oracle.message(1, Oracle.join(Desks.RANDOM0, due)));
  }

  private static void wrongInputs() {
    GreetDesk desk = new GreetDesk();
    desk.feed(5, 5);
    for (int n : new int[] {0, 9, -1, -8, Integer.MIN_VALUE, Integer.MAX_VALUE}) {
      Check.argument("feed " + n, () -> desk.feed(n, 1));
    }
    Check.same("tape behind wrong feeds", desk.wipe(), 5);

    for (int i = 1; i <= 255; i++) {
      Check.same("feed", desk.feed(8, i), 8 * i);
    }
    Check.same("feed", desk.feed(1, 0), 2041);
    Check.state("one too many", () -> desk.feed(8, 0));
    Check.argument("argument before state", () -> desk.feed(9, 0));
    Check.same("to the brim", desk.feed(7, 0), 2048);
    Check.state("full", () -> desk.feed(1, 0));
    Check.argument("full, wrong n", () -> desk.feed(0, 0));
    Check.same("wipe the full tape", desk.wipe(), 2048);
    Check.same("feed again", desk.feed(8, 0), 8);
  }
}
