import java.util.ArrayList;
import java.util.Arrays;
import java.util.List;
import java.util.NoSuchElementException;

/**
 * A second desk, written from the document in another way: it keeps the bytes of each level as they
 * came, cuts messages off in front, and has its digests from the Java library.
 */
final class ModelDesk {
  private static final class Party {
    int[] key;
    int[] random;
    int[] parameters = new int[0];
    int[] others;
    boolean begun;
    boolean finished;
    int fault;
    final List<Integer> toCome = new ArrayList<>();
    final int[][] waiting = {{}, {}};
    final int[][] out = {{}, {}};
    final int[] carried = new int[2];
    final int[][][] secrets = new int[3][][];
    int[] root;
    int[] d2;
    int[] story = new int[0];
  }

  private final Party[] parties = {new Party(), new Party()};
  private int[] tape = new int[0];

  int feed(int n, long v) {
    argument(n >= 1 && n <= 8);
    state(tape.length + n <= 2048);
    int[] bytes = new int[n];
    for (int i = 0; i < n; i++) {
      bytes[i] = (int) (v & 255);
      v >>= 8;
    }
    tape = Oracle.join(tape, bytes);
    return tape.length;
  }

  int wipe() {
    return readTape().length;
  }

  void tell(int side, int what) {
    argument(side == 0 || side == 1);
    argument(what >= 0 && what <= 3);
    int[] least = {32, 32, 0, 1};
    int[] most = {32, 32, 300, 20};
    argument(tape.length >= least[what] && tape.length <= most[what]);
    Party p = parties[side];
    state(what == 3 || !p.begun);
    int[] bytes = readTape();
    if (what == 0) {
      p.key = bytes;
    } else if (what == 1) {
      p.random = bytes;
    } else if (what == 2) {
      p.parameters = bytes;
    } else {
      p.secrets[0] = new int[][] {Oracle.first(bytes, 0), Oracle.first(bytes, 1)};
    }
  }

  void begin(int side) {
    argument(side == 0 || side == 1);
    Party p = parties[side];
    state(!p.begun && p.key != null && p.random != null);
    p.begun = true;
    if (side == 0) {
      send(p, 0, Oracle.message(1, Oracle.join(p.random, p.parameters)));
      p.toCome.addAll(List.of(2, 8, 20));
    } else {
      p.toCome.addAll(List.of(1, 20));
    }
  }

  int take(int side, int level) {
    argument((side == 0 || side == 1) && (level == 0 || level == 1));
    Party p = parties[side];
    state(p.begun && p.fault == 0);
    come(side, level, readTape());
    return p.fault;
  }

  int carry(int side, int level, int n) {
    argument((side == 0 || side == 1) && (level == 0 || level == 1) && n >= 1);
    Party from = parties[side];
    Party to = parties[1 - side];
    state(to.begun && to.fault == 0);
    int start = from.carried[level];
    int end = (int) Math.min((long) start + n, from.out[level].length);
    from.carried[level] = end;
    come(1 - side, level, Arrays.copyOfRange(from.out[level], start, end));
    return to.fault;
  }

  int sent(int side, int level, int k) {
    argument((side == 0 || side == 1) && (level == 0 || level == 1));
    return element(parties[side].out[level], k);
  }

  int secret(int side, int level, int of, int k) {
    argument((side == 0 || side == 1) && level >= 0 && level <= 2 && (of == 0 || of == 1));
    argument(k >= 0 && k <= 31);
    int[][] both = parties[side].secrets[level];
    return element(both == null ? null : both[of], k);
  }

  int theirs(int side, int k) {
    argument(side == 0 || side == 1);
    return element(parties[side].others, k);
  }

  int look(int side, int what) {
    argument(side == 0 || side == 1);
    Party p = parties[side];
    int highest = -1;
    for (int level = 0; level < 3; level++) {
      highest = p.secrets[level] == null ? highest : level;
    }
    int[] all = {
      p.toCome.isEmpty() ? 0 : p.toCome.get(0), p.begun ? 1 : 0, p.finished ? 1 : 0, p.fault,
      p.out[0].length, p.out[1].length, p.waiting[0].length, p.waiting[1].length,
      p.others == null ? -1 : p.others.length, highest, p.carried[0], p.carried[1],
    };
    return element(all, what);
  }

  private void come(int side, int level, int[] bytes) {
    Party p = parties[side];
    p.waiting[level] = Oracle.join(p.waiting[level], bytes);
    while (p.fault == 0 && p.waiting[level].length > 0) {
      int[] have = p.waiting[level];
      int type = p.toCome.isEmpty() ? 0 : p.toCome.get(0);
      if (type == 0 || level != (type < 8 ? 0 : 1) || have[0] != type) {
        p.fault = 266;
        break;
      }
      if (have.length < 4) {
        return;
      }
      int size = have[1] * 65536 + have[2] * 256 + have[3];
      int least = type == 8 ? 0 : 32;
      int most = type == 1 ? 332 : type == 8 ? 300 : 32;
      if (size < least || size > most) {
        p.fault = 306;
        break;
      }
      if (have.length < 4 + size) {
        return;
      }
      p.waiting[level] = Arrays.copyOfRange(have, 4 + size, have.length);
      whole(side, type, Arrays.copyOf(have, 4 + size));
    }
    if (p.fault != 0) {
      p.waiting[0] = new int[0];
      p.waiting[1] = new int[0];
      p.toCome.clear();
    }
  }

  private void whole(int side, int type, int[] message) {
    Party p = parties[side];
    int[] body = Arrays.copyOfRange(message, 4, message.length);
    if (type == 20 && !Arrays.equals(body, proof(p, 1 - side))) {
      p.fault = 307;
      return;
    }
    p.toCome.remove(0);
    if (side == 1 && type == 20) {
      p.finished = true;
      return;
    }
    p.story = Oracle.join(p.story, message);
    if (type == 1) {
      p.others = Arrays.copyOfRange(body, 32, body.length);
      send(p, 0, Oracle.message(2, p.random));
      greet(p);
      send(p, 1, Oracle.message(8, p.parameters));
      send(p, 1, Oracle.message(20, proof(p, 1)));
      talk(p);
    } else if (type == 2) {
      greet(p);
    } else if (type == 8) {
      p.others = body;
    } else {
      talk(p);
      send(p, 1, Oracle.message(20, proof(p, 0)));
      p.finished = true;
    }
  }

  private static void send(Party p, int level, int[] message) {
    p.out[level] = Oracle.join(p.out[level], message);
    p.story = Oracle.join(p.story, message);
  }

  private static void greet(Party p) {
    p.d2 = Oracle.digest(p.story);
    p.root = Oracle.mac(p.key, p.d2);
    p.secrets[1] = new int[][] {
      Oracle.label(p.root, "v1 greet a", p.d2), Oracle.label(p.root, "v1 greet b", p.d2),
    };
  }

  private static void talk(Party p) {
    int[] d4 = Oracle.digest(p.story);
    int[] root = Oracle.mac(p.root, d4);
    p.secrets[2] = new int[][] {Oracle.label(root, "v1 talk a", d4), Oracle.label(root, "v1 talk b", d4)};
  }

  private static int[] proof(Party p, int by) {
    return Oracle.mac(Oracle.label(p.secrets[1][by], "v1 done", new int[0]), Oracle.digest(p.story));
  }

  private int[] readTape() {
    int[] bytes = tape;
    tape = new int[0];
    return bytes;
  }

  private static void argument(boolean right) {
    if (!right) {
      throw new IllegalArgumentException();
    }
  }

  private static void state(boolean right) {
    if (!right) {
      throw new IllegalStateException();
    }
  }

  private static int element(int[] bytes, int k) {
    if (bytes == null || k < 0 || k >= bytes.length) {
      throw new NoSuchElementException();
    }
    return bytes[k];
  }
}
