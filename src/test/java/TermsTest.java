import java.util.ArrayList;
import java.util.List;

/** The document's terms that hold for all calls, sentence by sentence. */
public final class TermsTest {
  private static final String PLACE = "Promises 1 to 11, Terms";

  public static void main(String[] args) {
    bytes();
    tapeAtFirst();
    tapeAtMost();
    readingCallsUseItUp();
    otherCallsDoNot();
    throwingChangesNothing();
    memoryIsItsOwn();
    Check.close();
  }

  private static void bytes() {
    Check.sentence(PLACE, "BYTES are 0 .. 255");
    int[] all = new int[256];
    for (int i = 0; i < 256; i++) {
      all[i] = i;
    }
    GreetDesk sender = Desks.told(Desks.KEY, Desks.KEY, all, all);
    sender.begin(0);
    Check.sameBytes("sent", Desks.sent(sender, 0, 0), Oracle.message(1, Oracle.join(Desks.RANDOM0, all)));
    Check.sameBytes("as side 1 has them", Desks.theirs(Desks.greeted(all, Desks.PARAMETERS1), 1), all);
    Check.sameBytes("as side 0 has them", Desks.theirs(Desks.greeted(Desks.PARAMETERS0, all), 0), all);
  }

  private static void tapeAtFirst() {
    Check.sentence(PLACE, "The TAPE has at most 2048 bytes, none at first");
    Check.same("wipe", new GreetDesk().wipe(), 0);
    Check.same("the first byte", new GreetDesk().feed(1, 9), 1);
    Refused.argument(GreetDesk::new, Act.tell(0, 0), Act.tell(0, 1), Act.tell(0, 3));
    Check.sameText("no parameters", Act.tell(0, 2).outcome(new GreetDesk()), "answers 0");
  }

  private static void tapeAtMost() {
    Check.sentence(PLACE, "The TAPE has at most 2048 bytes");
    GreetDesk desk = new GreetDesk();
    for (int i = 1; i <= 256; i++) {
      Check.same("feed", desk.feed(8, i), 8 * i);
    }
    Check.sameText("a byte more", Act.feed(1, 0).outcome(desk), "throws java.lang.IllegalStateException");
    Check.same("wipe", desk.wipe(), 2048);
  }

  private static void readingCallsUseItUp() {
    Check.sentence(PLACE, "a call that is said to read it uses it up: it is empty then");
    int[][] told = {Desks.KEY, Desks.RANDOM0, Desks.row(300, 1), Desks.NAME};
    for (int side = 0; side < 2; side++) {
      for (int what = 0; what < 4; what++) {
        GreetDesk desk = new GreetDesk();
        Desks.tell(desk, side, what, told[what]);
        Check.same("tell " + what, desk.wipe(), 0);
      }
    }
    GreetDesk taken = Desks.begun();
    Check.same("take", Desks.take(taken, 1, 0, 1, 0), 0);
    Check.same("tape", taken.wipe(), 0);
    Check.same("take with a fault", Desks.take(taken, 1, 0, 5, 5, 5, 5), 306);
    Check.same("tape", taken.wipe(), 0);
  }

  private static void otherCallsDoNot() {
    Check.sentence(PLACE, "a call that is said to read it uses it up");
    GreetDesk desk = Desks.told();
    Desks.feed(desk, Desks.NAME);
    desk.begin(0);
    desk.begin(1);
    for (int i = 0; i < 4; i++) {
      Check.same("step " + i, Desks.step(desk, i), 0);
    }
    desk.sent(0, 0, 0);
    desk.secret(0, 2, 0, 0);
    desk.theirs(0, 0);
    Check.sameBytes("looks", Desks.looks(desk), Desks.looks(Desks.after(4)));
    desk.tell(1, 3);
    Check.sameBytes("the tape was as before", Desks.secret(desk, 1, 0, 0), Oracle.first(Desks.NAME, 0));
  }

  private static void throwingChangesNothing() {
    Check.sentence(PLACE, "A call that throws changes nothing");
    int thrown = 0;
    for (Desks.Maker state : states()) {
      for (int[] tape : new int[][] {{}, Desks.NAME, Desks.KEY, Desks.row(301, 1)}) {
        Desks.Maker maker = Desks.with(state, tape);
        for (Act act : acts()) {
          thrown += Refused.changesNothing(maker, act) ? 1 : 0;
        }
      }
    }
    Check.same("calls that threw: " + thrown, thrown > 1000 ? 1 : 0, 1);
  }

  private static List<Desks.Maker> states() {
    List<Desks.Maker> states = new ArrayList<>();
    states.add(GreetDesk::new);
    states.add(Desks::told);
    states.add(() -> Desks.begun(0));
    states.add(() -> Desks.begun(1));
    for (int i = 0; i < 5; i++) {
      int steps = i;
      states.add(() -> Desks.after(steps));
      states.add(() -> Desks.faulty(steps == 1 || steps == 4 ? steps : 0, steps % 2));
    }
    states.add(() -> half(0, 0, 0, 20));
    states.add(() -> half(1, 1, 0, 20));
    states.add(() -> half(2, 1, 1, 20));
    states.add(() -> half(3, 0, 1, 20));
    return states;
  }

  /** A message waits in part. */
  private static GreetDesk half(int steps, int side, int level, int n) {
    GreetDesk desk = Desks.after(steps);
    Check.same("a part", desk.carry(side, level, n), 0);
    return desk;
  }

  private static List<Act> acts() {
    List<Act> acts = new ArrayList<>();
    acts.add(Act.feed(0, -1));
    acts.add(Act.feed(9, -1));
    for (int side = -1; side <= 2; side++) {
      acts.add(Act.begin(side));
      for (int what = -1; what <= 4; what++) {
        acts.add(Act.tell(side, what));
      }
      for (int level = -1; level <= 2; level++) {
        acts.add(Act.take(side, level));
        acts.add(Act.carry(side, level, 0));
        acts.add(Act.carry(side, level, 5));
      }
    }
    acts.add(Act.sent(0, 1, 36));
    acts.add(Act.sent(2, 0, 0));
    acts.add(Act.secret(0, 2, 0, 32));
    acts.add(Act.secret(1, 0, 0, 0));
    acts.add(Act.theirs(1, 3));
    acts.add(Act.look(1, 12));
    return acts;
  }

  private static void memoryIsItsOwn() {
    Check.sentence(PLACE, "All memory is the desk's own");
    int[] key = Desks.row(32, 90);
    GreetDesk one = Desks.told();
    GreetDesk other = Desks.told(key, key, Desks.PARAMETERS1, Desks.PARAMETERS0);
    one.begin(0);
    other.begin(0);
    one.begin(1);
    other.begin(1);
    Desks.feed(one, 1, 2, 3);
    Check.same("the other's tape", other.wipe(), 0);
    for (int i = 0; i < 4; i++) {
      Check.same("one", Desks.step(one, i), 0);
      Check.same("other", Desks.step(other, i), 0);
    }
    Oracle due = new Oracle(key, Desks.RANDOM0, Desks.PARAMETERS1, Desks.RANDOM1, Desks.PARAMETERS0);
    Check.sameBytes("one's DONE", Desks.sent(one, 0, 1), Desks.oracle().done0);
    Check.sameBytes("the other's DONE", Desks.sent(other, 0, 1), due.done0);
    Check.sameBytes("one's secret", Desks.secret(one, 0, 2, 1), Desks.oracle().talk[1]);
    Check.sameBytes("the other's secret", Desks.secret(other, 0, 2, 1), due.talk[1]);
    Check.same("one's tape", one.wipe(), 3);
    whatWasToldStays();
  }

  /** What was told is not the tape's later bytes. */
  private static void whatWasToldStays() {
    GreetDesk desk = Desks.told();
    Desks.feed(desk, Desks.row(300, 123));
    desk.begin(0);
    desk.begin(1);
    for (int i = 0; i < 4; i++) {
      Check.same("step " + i, Desks.step(desk, i), 0);
    }
    Check.sameBytes("HELLO", Desks.sent(desk, 0, 0), Desks.oracle().hello);
    Check.sameBytes("DONE", Desks.sent(desk, 0, 1), Desks.oracle().done0);
  }
}
