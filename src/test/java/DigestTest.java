import java.util.Arrays;

/** DIGEST, MAC and LABEL, sentence by sentence, as the secrets and proofs show them. */
public final class DigestTest {
  private static final String PLACE = "Promises 8 and 9, Terms";

  public static void main(String[] args) {
    knownAnswers();
    zerosUpTo8LessThanAMultipleOf64();
    everySize();
    number();
    sumsWrap();
    keysOf32();
    keyOf20();
    labels();
    firstMessages();
    Check.close();
  }

  /** These were worked out by another program. */
  private static void knownAnswers() {
    Check.sentence(PLACE, "DIGEST of bytes (32 bytes)");
    GreetDesk desk = Desks.after(4);
    Desks.tell(desk, 0, 3, Desks.NAME);
    String[][] due = {
      {"477eec82cd42402ad834c2d991904ee3ceaef1f52d70f23560dc0c3482b6de28",
        "87eed428ca6df829bf82adc5a6b67f66659561cceb2b92f788addfd8b25fbcd1"},
      {"91226afcd9b6fccf8b56ceb7f2a91eff342b729ce68fdbf86252caa0452d18c7",
        "025ff89f863cb6cfa5a81500d1e982becf22fd59f67396c8ae971351b39ddca2"},
      {"bbe49f2157e782ab71402ecfdeafbd3d6fa49a913ea2ca8db8a97971ee7c7e71",
        "080af79b0eac861982c3bd4792f4a0557154e006ea2ef372f42213d6eb66bb11"},
    };
    for (int level = 0; level < 3; level++) {
      for (int of = 0; of < 2; of++) {
        Check.sameText("level " + level + " of " + of, hex(Desks.secret(desk, 0, level, of)), due[level][of]);
      }
    }
    Check.sameText("proof of 0", hex(Arrays.copyOfRange(Desks.sent(desk, 0, 1), 4, 36)),
        "b0c70b01f2e9eaf73993af79c2c3370e248636aac4360fc1c8487541716bc24c");
    Check.sameText("proof of 1", hex(Arrays.copyOfRange(Desks.sent(desk, 1, 1), 13, 45)),
        "c6179d39e32bf9f648cad6c94f14321c1f90b9e0ba02876fe51f25b7ee25ed1b");
  }

  /** HELLO and ANSWER have 72 bytes and the parameters; with 47 of those just no 0 is needed. */
  private static void zerosUpTo8LessThanAMultipleOf64() {
    Check.sentence(PLACE, "behind them come a byte 128, as many 0s as are needed for 8 less than a multiple of 64");
    for (int multiple : new int[] {128, 192, 256, 320, 384}) {
      for (int less : new int[] {11, 10, 9, 8, 7, 2, 1, 0}) {
        int size = multiple - less - 72;
        if (size <= 300) {
          greet("D(2) of " + (multiple - less) + " bytes", size, 0);
        }
      }
    }
    for (int less : new int[] {11, 10, 9, 8, 7, 2, 1, 0}) {
      for (int multiple : new int[] {128, 192, 448, 640}) {
        both("D(3) of " + (multiple - less) + " bytes", multiple - less - 76);
      }
      for (int multiple : new int[] {128, 192, 448, 704}) {
        both("D(4) of " + (multiple - less) + " bytes", multiple - less - 112);
      }
    }
  }

  private static void both(String what, int size) {
    greet(what, size / 2, size - size / 2);
  }

  private static void everySize() {
    Check.sentence(PLACE, "For each 64 bytes in turn");
    for (int size = 0; size <= 300; size++) {
      greet("side 0 with " + size, size, (size * 131 + 17) % 301);
      greet("side 1 with " + size, 300, size);
    }
  }

  private static void number() {
    Check.sentence(PLACE, "and 8 times their number as 8 bytes, highest first");
    greet("72 bytes, 576 bits", 0, 0);
    greet("D(2) of 255 bytes", 183, 0);
    greet("D(2) of 256 bytes", 184, 0);
    greet("D(4) of 511 bytes", 200, 199);
    greet("D(4) of 512 bytes", 200, 200);
    greet("D(4) of 712 bytes", 300, 300);
  }

  private static void sumsWrap() {
    Check.sentence(PLACE, "WORDS 32 bits; sums of words wrap");
    int[] patterns = {0, 255, 127, 128, 1, 170};
    for (int key : patterns) {
      for (int rest : patterns) {
        greet("key of " + key + ", all else of " + rest, filled(32, key), filled(32, rest), filled(300, rest),
            filled(32, rest), filled(57, rest));
      }
    }
  }

  private static void keysOf32() {
    Check.sentence(PLACE, "MAC of bytes under a KEY (32 bytes here, or fewer; 0s behind it make it 64)");
    int[] ends = Desks.KEY.clone();
    Arrays.fill(ends, 16, 32, 0);
    int[] masked = filled(32, 92);
    Arrays.fill(masked, 16, 32, 54);
    for (int[] key : new int[][] {filled(32, 0), filled(32, 54), filled(32, 92), ends, masked, Desks.row(32, 255)}) {
      greet("key " + Arrays.toString(key), key, Desks.RANDOM0, Desks.PARAMETERS0, Desks.RANDOM1, Desks.PARAMETERS1);
    }
    for (int i = 0; i < 32; i++) {
      int[] key = filled(32, 0);
      key[i] = 1;
      greet("a key with a 1 at " + i, key, Desks.RANDOM0, Desks.PARAMETERS0, Desks.RANDOM1, Desks.PARAMETERS1);
    }
  }

  private static void keyOf20() {
    Check.sentence(PLACE, "of the MAC of the FIRST NAME (1 to 20 bytes) under the key of the bytes 1, 2, .. 20");
    for (int size = 1; size <= 20; size++) {
      for (int[] name : new int[][] {Desks.row(size, size * 7), filled(size, 0), filled(size, 255)}) {
        GreetDesk desk = new GreetDesk();
        Desks.tell(desk, 1, 3, name);
        Check.sameBytes("of 0", Desks.secret(desk, 1, 0, 0), Oracle.first(name, 0));
        Check.sameBytes("of 1", Desks.secret(desk, 1, 0, 1), Oracle.first(name, 1));
      }
    }
    GreetDesk told = new GreetDesk();
    Desks.tell(told, 0, 0, Desks.KEY);
    Desks.tell(told, 0, 3, Desks.NAME);
    Check.sameBytes("the side's own key is not that", Desks.secret(told, 0, 0, 0), Oracle.first(Desks.NAME, 0));
  }

  private static void labels() {
    Check.sentence(PLACE, "The texts by w: 4 v1 first a, 5 v1 first b, 6 v1 greet a, 7 v1 greet b, 8 v1 talk a, "
        + "9 v1 talk b, 10 v1 done");
    GreetDesk desk = Desks.after(4);
    Desks.tell(desk, 1, 3, Desks.NAME);
    Oracle due = Desks.oracle();
    for (int of = 0; of < 2; of++) {
      Check.sameBytes("4, 5", Desks.secret(desk, 1, 0, of), Oracle.first(Desks.NAME, of));
      Check.sameBytes("6, 7", Desks.secret(desk, 1, 1, of), due.greet[of]);
      Check.sameBytes("8, 9", Desks.secret(desk, 1, 2, of), due.talk[of]);
    }
    Check.sameBytes("10", Desks.sent(desk, 0, 1), due.done0);
  }

  /** A byte more or less in one message shows in every secret and proof behind it, in none before it. */
  private static void firstMessages() {
    Check.sentence(PLACE, "D(k) is the digest of the first k messages of HELLO, ANSWER, PARAMETERS, DONE of side 1");
    greet("no parameters of side 0", 0, 5);
    greet("no parameters of side 1", 5, 0);
    GreetDesk one = Desks.greeted(Desks.PARAMETERS0, new int[] {1});
    GreetDesk other = Desks.greeted(Desks.PARAMETERS0, new int[] {2});
    Check.sameBytes("greet hangs on two messages", Desks.secret(one, 0, 1, 0), Desks.secret(other, 0, 1, 0));
    Check.same("talk hangs on four",
        Arrays.equals(Desks.secret(one, 0, 2, 0), Desks.secret(other, 0, 2, 0)) ? 1 : 0, 0);
  }

  private static void greet(String what, int size0, int size1) {
    greet(what, Desks.KEY, Desks.RANDOM0, Desks.row(size0, 1), Desks.RANDOM1, Desks.row(size1, 2));
  }

  private static void greet(String what, int[] key, int[] random0, int[] parameters0, int[] random1,
      int[] parameters1) {
    GreetDesk desk = new GreetDesk();
    for (int side = 0; side < 2; side++) {
      Desks.tell(desk, side, 0, key);
      Desks.tell(desk, side, 1, side == 0 ? random0 : random1);
      Desks.tell(desk, side, 2, side == 0 ? parameters0 : parameters1);
      desk.begin(side);
    }
    for (int i = 0; i < 4; i++) {
      Check.same(what + ", step " + i, Desks.step(desk, i), 0);
    }
    Oracle due = new Oracle(key, random0, parameters0, random1, parameters1);
    Check.sameBytes(what + ", greet of 0", Desks.secret(desk, 0, 1, 0), due.greet[0]);
    Check.sameBytes(what + ", greet of 1", Desks.secret(desk, 1, 1, 1), due.greet[1]);
    Check.sameBytes(what + ", talk of 1", Desks.secret(desk, 0, 2, 1), due.talk[1]);
    Check.sameBytes(what + ", talk of 0", Desks.secret(desk, 1, 2, 0), due.talk[0]);
    int from = 4 + parameters1.length;
    int[] done1 = new int[36];
    for (int k = 0; k < 36; k++) {
      done1[k] = desk.sent(1, 1, from + k);
    }
    Check.sameBytes(what + ", DONE of 1", done1, due.done1);
    Check.sameBytes(what + ", DONE of 0", Desks.sent(desk, 0, 1), due.done0);
  }

  private static int[] filled(int size, int b) {
    int[] bytes = new int[size];
    Arrays.fill(bytes, b);
    return bytes;
  }

  private static String hex(int[] bytes) {
    StringBuilder text = new StringBuilder();
    for (int b : bytes) {
      text.append(String.format("%02x", b));
    }
    return text.toString();
  }
}
