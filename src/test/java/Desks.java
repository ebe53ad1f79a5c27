/** Desks in the states that the tests begin with, and what can be read of them. */
final class Desks {
  static final int[] KEY = row(32, 11);
  static final int[] RANDOM0 = row(32, 71);
  static final int[] RANDOM1 = row(32, 171);
  static final int[] PARAMETERS0 = {1, 2, 255};
  static final int[] PARAMETERS1 = {0, 128, 9, 200, 7};
  static final int[] NAME = {131, 148, 200, 240, 62, 81, 87, 8};

  /** Arguments that are no side and no level of 0 and 1: the first ones on both ends, and far off. */
  static final int[] NOT_0_1 = {-1, 2, 3, 256, -256, Integer.MIN_VALUE, Integer.MAX_VALUE};

  /** Makes desks that are all alike. */
  interface Maker {
    GreetDesk make();
  }

  private Desks() {}

  static int[] row(int size, int start) {
    int[] bytes = new int[size];
    for (int i = 0; i < size; i++) {
      bytes[i] = (start + i * 37) % 256;
    }
    return bytes;
  }

  static Oracle oracle() {
    return new Oracle(KEY, RANDOM0, PARAMETERS0, RANDOM1, PARAMETERS1);
  }

  /** Bytes on the tape, eight a call as far as they go. */
  static void feed(GreetDesk desk, int... bytes) {
    for (int from = 0; from < bytes.length; from += 8) {
      int n = Math.min(8, bytes.length - from);
      long v = 0;
      for (int i = n - 1; i >= 0; i--) {
        v = v << 8 | bytes[from + i];
      }
      desk.feed(n, v);
    }
  }

  /** The same desks, with these bytes on the tape. */
  static Maker with(Maker maker, int... bytes) {
    return () -> {
      GreetDesk desk = maker.make();
      feed(desk, bytes);
      return desk;
    };
  }

  static void tell(GreetDesk desk, int side, int what, int... bytes) {
    feed(desk, bytes);
    desk.tell(side, what);
  }

  static int take(GreetDesk desk, int side, int level, int... bytes) {
    feed(desk, bytes);
    return desk.take(side, level);
  }

  /** Both sides know all, none has begun. */
  static GreetDesk told() {
    return told(KEY, KEY, PARAMETERS0, PARAMETERS1);
  }

  static GreetDesk told(int[] key0, int[] key1, int[] parameters0, int[] parameters1) {
    GreetDesk desk = new GreetDesk();
    tell(desk, 0, 0, key0);
    tell(desk, 0, 1, RANDOM0);
    tell(desk, 0, 2, parameters0);
    tell(desk, 1, 0, key1);
    tell(desk, 1, 1, RANDOM1);
    tell(desk, 1, 2, parameters1);
    return desk;
  }

  static GreetDesk begun() {
    GreetDesk desk = told();
    desk.begin(0);
    desk.begin(1);
    return desk;
  }

  /** Only this side has begun; both know all. */
  static GreetDesk begun(int side) {
    GreetDesk desk = told();
    desk.begin(side);
    return desk;
  }

  /** Behind so many steps, a byte that no one waits for has come to the side. */
  static GreetDesk faulty(int steps, int side) {
    GreetDesk desk = after(steps);
    Check.same("a wrong byte", take(desk, side, 0, 77), 266);
    return desk;
  }

  /** A whole greeting, with these parameters. */
  static GreetDesk greeted(int[] parameters0, int[] parameters1) {
    GreetDesk desk = told(KEY, KEY, parameters0, parameters1);
    desk.begin(0);
    desk.begin(1);
    for (int i = 0; i < 4; i++) {
      Check.same("step " + i, step(desk, i), 0);
    }
    return desk;
  }

  /** After so many of the four steps of a greeting. */
  static GreetDesk after(int steps) {
    GreetDesk desk = begun();
    for (int i = 0; i < steps; i++) {
      step(desk, i);
    }
    return desk;
  }

  static int step(GreetDesk desk, int i) {
    switch (i) {
      case 0:
        return desk.carry(0, 0, 999);
      case 1:
        return desk.carry(1, 0, 999);
      case 2:
        return desk.carry(1, 1, 999);
      default:
        return desk.carry(0, 1, 999);
    }
  }

  static int[] sent(GreetDesk desk, int side, int level) {
    int[] bytes = new int[desk.look(side, 4 + level)];
    for (int k = 0; k < bytes.length; k++) {
      bytes[k] = desk.sent(side, level, k);
    }
    return bytes;
  }

  static int[] secret(GreetDesk desk, int side, int level, int of) {
    int[] bytes = new int[32];
    for (int k = 0; k < 32; k++) {
      bytes[k] = desk.secret(side, level, of, k);
    }
    return bytes;
  }

  static int[] theirs(GreetDesk desk, int side) {
    int[] bytes = new int[desk.look(side, 8)];
    for (int k = 0; k < bytes.length; k++) {
      bytes[k] = desk.theirs(side, k);
    }
    return bytes;
  }

  static int[] looks(GreetDesk desk) {
    int[] all = new int[24];
    for (int i = 0; i < 24; i++) {
      all[i] = desk.look(i / 12, i % 12);
    }
    return all;
  }
}
