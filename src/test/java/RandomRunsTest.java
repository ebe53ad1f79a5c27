import java.util.Random;
import java.util.function.LongSupplier;

/** Runs of up to 512 calls on a desk and on a model; every answer and every exception is the same. */
public final class RandomRunsTest {
  private static final int RUNS = 3000;
  private static final int CALLS = 512;

  private final Random random;
  private final GreetDesk desk = new GreetDesk();
  private final ModelDesk model = new ModelDesk();
  private final String run;
  private int calls = 0;
  private static int finished = 0;
  private static final int[] faults = new int[400];

  private RandomRunsTest(int seed) {
    random = new Random(seed);
    run = "run " + seed;
  }

  public static void main(String[] args) {
    for (int seed = 0; seed < RUNS; seed++) {
      new RandomRunsTest(seed).go();
    }
    System.out.println(finished + " runs finish; faults " + faults[266] + ", " + faults[306] + ", " + faults[307]);
    Check.same("runs that finish: " + finished, finished > RUNS / 10 ? 1 : 0, 1);
    for (int fault : new int[] {266, 306, 307}) {
      Check.same("runs with fault " + fault + ": " + faults[fault], faults[fault] > RUNS / 50 ? 1 : 0, 1);
    }
    Check.close();
  }

  private void go() {
    boolean sameKeys = random.nextInt(6) > 0;
    int wildness = random.nextInt(4) * 4;
    for (int side = 0; side < 2; side++) {
      tellAll(side, sameKeys ? 1 : side);
      if (random.nextInt(10) > 0) {
        begin(side);
      }
    }
    while (calls < CALLS) {
      if (random.nextInt(100) < wildness) {
        wild();
      } else if (random.nextInt(3) == 0) {
        carry(random.nextInt(2), random.nextInt(20) == 0 ? random.nextInt(2) : level(), 1 + random.nextInt(60));
      } else {
        read();
      }
    }
    finished += model.look(0, 2) * model.look(1, 2);
    faults[model.look(0, 3)]++;
    faults[model.look(1, 3)]++;
  }

  /** A level at which something that was sent waits to be carried in turn. */
  private int level() {
    return model.look(0, 0) == 2 || model.look(1, 0) == 1 ? 0 : 1;
  }

  private void tellAll(int side, int start) {
    feed(Desks.row(32, start));
    tell(side, 0);
    feed(Desks.row(32, random.nextInt(256)));
    tell(side, 1);
    if (random.nextInt(3) > 0) {
      feed(Desks.row(random.nextInt(random.nextBoolean() ? 301 : 9), random.nextInt(256)));
      tell(side, 2);
    }
    if (random.nextInt(3) > 0) {
      feed(Desks.row(1 + random.nextInt(20), random.nextInt(256)));
      tell(side, 3);
    }
  }

  private void feed(int[] bytes) {
    for (int from = 0; from < bytes.length; from += 8) {
      long v = random.nextLong();
      int n = Math.min(8, bytes.length - from);
      for (int i = 0; i < n; i++) {
        v = v & ~(255L << 8 * i) | (long) bytes[from + i] << 8 * i;
      }
      feed(n, v);
    }
  }

  private void wild() {
    switch (random.nextInt(8)) {
      case 0:
        feed(random.nextInt(11) - 1, random.nextLong());
        break;
      case 1:
        same("wipe", desk::wipe, model::wipe);
        break;
      case 2:
        tell(odd(2), odd(4));
        break;
      case 3:
        begin(odd(2));
        break;
      case 4:
        takeSomething();
        break;
      case 5:
        feed(Desks.row(random.nextBoolean() ? 32 : random.nextInt(24), random.nextInt(256)));
        break;
      default:
        carry(odd(2), odd(2), random.nextInt(30) - 1);
        break;
    }
  }

  private void takeSomething() {
    int side = random.nextInt(2);
    int type = model.look(side, 0);
    if (random.nextBoolean()) {
      same("wipe", desk::wipe, model::wipe);
      int size = type == 8 ? random.nextInt(310) : random.nextInt(4) == 0 ? random.nextInt(40) : 32;
      int[] message = Oracle.message(type, Desks.row(size, random.nextInt(256)));
      feed(random.nextBoolean() ? message : Oracle.join(message, new int[] {type}));
    }
    int taker = random.nextInt(9) == 0 ? odd(2) : side;
    int level = random.nextInt(9) == 0 ? odd(2) : type == 1 || type == 2 ? 0 : 1;
    same("take " + taker + " " + level, () -> desk.take(taker, level), () -> model.take(taker, level));
  }

  private void read() {
    int side = odd(2);
    int a = odd(3);
    int b = odd(2);
    int k = random.nextInt(20) == 0 ? random.nextInt() : random.nextInt(45) - 1;
    int what = odd(12);
    switch (random.nextInt(4)) {
      case 0:
        same("sent " + side + " " + b + " " + k, () -> desk.sent(side, b, k), () -> model.sent(side, b, k));
        break;
      case 1:
        same("secret " + side + " " + a + " " + b + " " + k, () -> desk.secret(side, a, b, k),
            () -> model.secret(side, a, b, k));
        break;
      case 2:
        same("theirs " + side + " " + k, () -> desk.theirs(side, k), () -> model.theirs(side, k));
        break;
      default:
        same("look " + side + " " + what, () -> desk.look(side, what), () -> model.look(side, what));
        break;
    }
  }

  /** Mostly 0 .. n - 1. */
  private int odd(int n) {
    int draw = random.nextInt(60);
    return draw == 0 ? -1 : draw == 1 ? n : draw == 2 ? random.nextInt() : random.nextInt(n);
  }

  private void feed(int n, long v) {
    same("feed " + n + " " + v, () -> desk.feed(n, v), () -> model.feed(n, v));
  }

  private void tell(int side, int what) {
    same("tell " + side + " " + what, () -> { desk.tell(side, what); return 0; },
        () -> { model.tell(side, what); return 0; });
  }

  private void begin(int side) {
    same("begin " + side, () -> { desk.begin(side); return 0; }, () -> { model.begin(side); return 0; });
  }

  private void carry(int side, int level, int n) {
    same("carry " + side + " " + level + " " + n, () -> desk.carry(side, level, n),
        () -> model.carry(side, level, n));
  }

  private void same(String call, LongSupplier got, LongSupplier due) {
    if (calls < CALLS) {
      calls++;
      String want = outcome(due);
      Check.sameText(run + ", call " + calls + ": " + call, outcome(got), want);
    }
  }

  private static String outcome(LongSupplier call) {
    try {
      return "answers " + call.getAsLong();
    } catch (RuntimeException e) {
      return "throws " + e.getClass().getName();
    }
  }
}
