import java.util.ArrayList;
import java.util.List;
import java.util.function.ToLongFunction;

/** A call with its arguments, which can be made on any desk. */
final class Act {
  private final String name;
  private final ToLongFunction<GreetDesk> call;

  private Act(String name, ToLongFunction<GreetDesk> call) {
    this.name = name;
    this.call = call;
  }

  static Act feed(int n, long v) {
    return new Act("feed(" + n + ", " + v + ")", desk -> desk.feed(n, v));
  }

  static Act wipe() {
    return new Act("wipe()", desk -> desk.wipe());
  }

  static Act tell(int side, int what) {
    return new Act("tell(" + side + ", " + what + ")", desk -> {
      desk.tell(side, what);
      return 0;
    });
  }

  static Act begin(int side) {
    return new Act("begin(" + side + ")", desk -> {
      desk.begin(side);
      return 0;
    });
  }

  static Act take(int side, int level) {
    return new Act("take(" + side + ", " + level + ")", desk -> desk.take(side, level));
  }

  static Act carry(int side, int level, int n) {
    return new Act("carry(" + side + ", " + level + ", " + n + ")", desk -> desk.carry(side, level, n));
  }

  static Act sent(int side, int level, int k) {
    return new Act("sent(" + side + ", " + level + ", " + k + ")", desk -> desk.sent(side, level, k));
  }

  static Act secret(int side, int level, int of, int k) {
    String name = "secret(" + side + ", " + level + ", " + of + ", " + k + ")";
    return new Act(name, desk -> desk.secret(side, level, of, k));
  }

  static Act theirs(int side, int k) {
    return new Act("theirs(" + side + ", " + k + ")", desk -> desk.theirs(side, k));
  }

  static Act look(int side, int what) {
    return new Act("look(" + side + ", " + what + ")", desk -> desk.look(side, what));
  }

  /** What the call answers, or the exception's own class, not one above it. */
  String outcome(GreetDesk desk) {
    try {
      return "answers " + call.applyAsLong(desk);
    } catch (RuntimeException e) {
      return "throws " + e.getClass().getName();
    }
  }

  static List<String> outcomes(List<Act> acts, GreetDesk desk) {
    List<String> rows = new ArrayList<>();
    for (Act act : acts) {
      rows.add(act + " " + act.outcome(desk));
    }
    return rows;
  }

  @Override
  public String toString() {
    return name;
  }
}
