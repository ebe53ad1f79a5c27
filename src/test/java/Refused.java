import java.util.ArrayList;
import java.util.List;
import java.util.NoSuchElementException;

/**
 * Calls that throw: the exception that is due, and that nothing is changed behind it. For this a desk
 * on which the call was made and a twin on which it was not made must answer the same from then on.
 */
final class Refused {
  private static final List<Act> GREET_ON = greetOn();
  private static final List<Act> SHOW_TAPE = showTape();

  private Refused() {}

  static void argument(Desks.Maker maker, Act... acts) {
    for (Act act : acts) {
      refused(maker, act, IllegalArgumentException.class);
    }
  }

  static void state(Desks.Maker maker, Act... acts) {
    for (Act act : acts) {
      refused(maker, act, IllegalStateException.class);
    }
  }

  static void missing(Desks.Maker maker, Act... acts) {
    for (Act act : acts) {
      refused(maker, act, NoSuchElementException.class);
    }
  }

  /** If the call throws, then nothing is changed. */
  static boolean changesNothing(Desks.Maker maker, Act act) {
    GreetDesk touched = maker.make();
    if (!act.outcome(touched).startsWith("throws")) {
      return false;
    }
    compare("greeting on behind " + act, GREET_ON, touched, maker.make());
    GreetDesk other = maker.make();
    act.outcome(other);
    compare("the tape behind " + act, SHOW_TAPE, other, maker.make());
    return true;
  }

  private static void refused(Desks.Maker maker, Act act, Class<?> due) {
    Check.sameText(act.toString(), act.outcome(maker.make()), "throws " + due.getName());
    changesNothing(maker, act);
  }

  private static void compare(String what, List<Act> acts, GreetDesk touched, GreetDesk spared) {
    Check.sameRows(what, Act.outcomes(acts, touched), Act.outcomes(acts, spared));
  }

  /** Key, random bytes, parameters and bytes that wait all show in the proofs and talk secrets. */
  private static List<Act> greetOn() {
    List<Act> acts = new ArrayList<>(reads());
    acts.add(Act.begin(0));
    acts.add(Act.begin(1));
    acts.add(Act.carry(0, 0, 999));
    acts.add(Act.carry(1, 0, 999));
    acts.add(Act.carry(1, 1, 999));
    acts.add(Act.carry(0, 1, 999));
    acts.addAll(reads());
    acts.add(Act.wipe());
    return acts;
  }

  private static List<Act> reads() {
    List<Act> acts = new ArrayList<>();
    for (int side = 0; side < 2; side++) {
      for (int what = 0; what < 12; what++) {
        acts.add(Act.look(side, what));
      }
      for (int k : new int[] {0, 3, 4, 35, 36, 38, 44}) {
        acts.add(Act.sent(side, 0, k));
        acts.add(Act.sent(side, 1, k));
      }
      for (int level = 0; level < 3; level++) {
        for (int k : new int[] {0, 31}) {
          acts.add(Act.secret(side, level, 0, k));
          acts.add(Act.secret(side, level, 1, k));
        }
      }
      for (int k = 0; k < 5; k++) {
        acts.add(Act.theirs(side, k));
      }
    }
    return acts;
  }

  /** The tape becomes a name, parameters, or a piece, whichever the desk lets it become. */
  private static List<Act> showTape() {
    List<Act> acts = new ArrayList<>();
    acts.add(Act.tell(0, 3));
    acts.add(Act.secret(0, 0, 0, 0));
    acts.add(Act.secret(0, 0, 1, 31));
    for (int side = 0; side < 2; side++) {
      acts.add(Act.tell(side, 2));
      for (int what = 0; what < 2; what++) {
        for (int i = 0; i < 4; i++) {
          acts.add(Act.feed(8, i));
        }
        acts.add(Act.tell(side, what));
      }
      acts.add(Act.begin(side));
    }
    acts.add(Act.carry(0, 0, 999));
    for (int k = 0; k < 8; k++) {
      acts.add(Act.sent(0, 0, 36 + k));
      acts.add(Act.sent(1, 1, 4 + k));
    }
    for (int side = 0; side < 2; side++) {
      acts.add(Act.take(side, 0));
      acts.add(Act.look(side, 6));
      acts.add(Act.take(side, 1));
      acts.add(Act.look(side, 7));
    }
    acts.add(Act.wipe());
    return acts;
  }
}
