import java.util.NoSuchElementException;

/**
 * A desk at which two sides greet one another over a line: each knows a key, tells its random bytes
 * and its parameters, proves that it knows the key, and both come to the same secrets, level by level.
 *
 * <p>All rows are made with the desk and used again, so that no call makes an object.
 */
public final class GreetDesk {
  private static final int TAPE_ROOM = 2048;
  private static final int KEY_SIZE = 32;
  private static final int MOST_PARAMETERS = 300;
  private static final int MOST_NAME = 20;
  private static final int HEAD_SIZE = 4;

  private static final int NOTHING = 0;
  private static final int HELLO = 1;
  private static final int ANSWER = 2;
  private static final int PARAMETERS = 8;
  private static final int DONE = 20;

  private static final int WRONG_TYPE = 266;
  private static final int WRONG_SIZE = 306;
  private static final int WRONG_PROOF = 307;

  private static final int TELL_KEY = 0;
  private static final int TELL_RANDOM = 1;
  private static final int TELL_PARAMETERS = 2;
  private static final int TELL_NAME = 3;

  private final Row tape;
  private final Side asker;
  private final Side answerer;

  public GreetDesk() {
    Hash hash = new Hash();
    tape = new Row(TAPE_ROOM);
    asker = new Side(0, hash);
    answerer = new Side(1, hash);
  }

  public int feed(int n, long v) throws IllegalArgumentException, IllegalStateException {
    if (n < 1 || n > 8) {
      throw new IllegalArgumentException("n is not 1 .. 8");
    }
    if (tape.size + n > TAPE_ROOM) {
      throw new IllegalStateException("the tape has no room for these bytes");
    }
    for (int i = 0; i < n; i++) {
      tape.put((int) (v >>> (8 * i)));
    }
    return tape.size;
  }

  public int wipe() {
    int had = tape.size;
    tape.clear();
    return had;
  }

  public void tell(int side, int what) throws IllegalArgumentException, IllegalStateException {
    if (!isSide(side) || !canBeTold(what, tape.size)) {
      throw new IllegalArgumentException("no such side or what, or not as many bytes as said");
    }
    Side told = pick(side);
    if (told.begun && what != TELL_NAME) {
      throw new IllegalStateException("the side has begun");
    }
    told.learn(what, tape);
    tape.clear();
  }

  public void begin(int side) throws IllegalArgumentException, IllegalStateException {
    if (!isSide(side)) {
      throw new IllegalArgumentException("no such side");
    }
    Side beginner = pick(side);
    if (beginner.begun || beginner.key.size == 0 || beginner.random.size == 0) {
      throw new IllegalStateException("the side has begun, or has no key or random bytes");
    }
    beginner.start();
  }

  public int take(int side, int level) throws IllegalArgumentException, IllegalStateException {
    if (!isSide(side) || !isLevel(level)) {
      throw new IllegalArgumentException("no such side or level");
    }
    Side taker = pick(side);
    if (!taker.isOpen()) {
      throw new IllegalStateException("the side has not begun, or had a fault");
    }
    int answer = taker.hear(level, tape, 0, tape.size);
    tape.clear();
    return answer;
  }

  public int carry(int side, int level, int n) throws IllegalArgumentException, IllegalStateException {
    if (!isSide(side) || !isLevel(level) || n < 1) {
      throw new IllegalArgumentException("no such side or level, or n is below 1");
    }
    Side taker = pick(1 - side);
    if (!taker.isOpen()) {
      throw new IllegalStateException("the other side has not begun, or had a fault");
    }
    Line line = pick(side).lineAt(level);
    int from = line.carried;
    int count = Math.min(n, line.bytes.size - from);
    line.carried = from + count;
    return taker.hear(level, line.bytes, from, count);
  }

  public int sent(int side, int level, int k) throws IllegalArgumentException, NoSuchElementException {
    if (!isSide(side) || !isLevel(level)) {
      throw new IllegalArgumentException("no such side or level");
    }
    Row bytes = pick(side).lineAt(level).bytes;
    if (!bytes.has(k)) {
      throw new NoSuchElementException("no such byte was sent");
    }
    return bytes.at(k);
  }

  public int secret(int side, int level, int of, int k)
      throws IllegalArgumentException, NoSuchElementException {
    if (!isSide(side) || level < 0 || level > 2 || !isSide(of) || k < 0 || k >= KEY_SIZE) {
      throw new IllegalArgumentException("no such side or level, or k is not 0 .. 31");
    }
    Row bytes = pick(side).pairAt(level).secretOf(of);
    if (!bytes.has(k)) {
      throw new NoSuchElementException("the side has no such secret");
    }
    return bytes.at(k);
  }

  public int theirs(int side, int k) throws IllegalArgumentException, NoSuchElementException {
    if (!isSide(side)) {
      throw new IllegalArgumentException("no such side");
    }
    Row bytes = pick(side).others;
    if (!bytes.has(k)) {
      throw new NoSuchElementException("no such byte of the other side's parameters");
    }
    return bytes.at(k);
  }

  public int look(int side, int what) throws IllegalArgumentException, NoSuchElementException {
    if (!isSide(side)) {
      throw new IllegalArgumentException("no such side");
    }
    if (what < 0 || what > 11) {
      throw new NoSuchElementException("no such what");
    }
    Side seen = pick(side);
    switch (what) {
      case 0:
        return seen.wanted;
      case 1:
        return seen.begun ? 1 : 0;
      case 2:
        return seen.finished ? 1 : 0;
      case 3:
        return seen.fault;
      case 4:
      case 5:
        return seen.lineAt(what - 4).bytes.size;
      case 6:
      case 7:
        return seen.waitingAt(what - 6);
      case 8:
        return seen.othersKnown ? seen.others.size : -1;
      case 9:
        return seen.highestLevel();
      default:
        return seen.lineAt(what - 10).carried;
    }
  }

  private Side pick(int side) {
    return side == 0 ? asker : answerer;
  }

  private static boolean isSide(int side) {
    return side == 0 || side == 1;
  }

  private static boolean isLevel(int level) {
    return level == 0 || level == 1;
  }

  private static boolean canBeTold(int what, int size) {
    switch (what) {
      case TELL_KEY:
      case TELL_RANDOM:
        return size == KEY_SIZE;
      case TELL_PARAMETERS:
        return size <= MOST_PARAMETERS;
      case TELL_NAME:
        return size >= 1 && size <= MOST_NAME;
      default:
        return false;
    }
  }

  /** Bytes in order. Every room is as large as the document lets the bytes become. */
  private static final class Row {
    final int[] cells;
    int size;

    Row(int room) {
      cells = new int[Math.max(room, 0)];
      size = 0;
    }

    void clear() {
      size = 0;
    }

    boolean has(int k) {
      return k >= 0 && k < size && k < cells.length;
    }

    int at(int k) {
      return k >= 0 && k < size && k < cells.length ? cells[k] : 0;
    }

    void put(int b) {
      if (size >= 0 && size < cells.length) {
        cells[size] = b & 255;
        size++;
      }
    }

    /** All of another row from its byte at from on. */
    void putFrom(Row other, int from) {
      if (from < 0) {
        return;
      }
      for (int i = from; i < other.size && i < other.cells.length && size < cells.length; i++) {
        cells[size] = other.cells[i];
        size++;
      }
    }

    void become(Row other) {
      size = 0;
      putFrom(other, 0);
    }

    void putMessage(int type, Row body) {
      put(type);
      put(body.size >>> 16);
      put(body.size >>> 8);
      put(body.size);
      putFrom(body, 0);
    }

    boolean isSameFrom(int from, Row other) {
      if (size - from != other.size) {
        return false;
      }
      for (int i = 0; i < other.size; i++) {
        if (at(from + i) != other.at(i)) {
          return false;
        }
      }
      return true;
    }
  }

  /** What a side has sent at a level, and how much of it was carried. */
  private static final class Line {
    final Row bytes;
    int carried;

    Line(int room) {
      bytes = new Row(room);
      carried = 0;
    }
  }

  /** The secrets of a level, one for each side, and the MAC that they are labels of. */
  private static final class Pair {
    final Row root;
    final Row ofAsker;
    final Row ofAnswerer;

    Pair() {
      root = new Row(KEY_SIZE);
      ofAsker = new Row(KEY_SIZE);
      ofAnswerer = new Row(KEY_SIZE);
    }

    Row secretOf(int side) {
      return side == 0 ? ofAsker : ofAnswerer;
    }

    boolean isMade() {
      return ofAsker.size > 0;
    }
  }

  /** DIGEST, MAC and LABEL. */
  private static final class Hash {
    private static final int BLOCK = 64;
    /** Twelve blocks hold all five messages of a greeting at their largest, and what comes behind. */
    private static final int TEXT_ROOM = 12 * BLOCK;
    private static final int INNER_MASK = 54;
    private static final int OUTER_MASK = 92;

    private static final int[] ROOTS = {
      0x6a09e667, 0xbb67ae85, 0x3c6ef372, 0xa54ff53a,
      0x510e527f, 0x9b05688c, 0x1f83d9ab, 0x5be0cd19,
    };
    private static final int[] CUBE_ROOTS = {
      0x428a2f98, 0x71374491, 0xb5c0fbcf, 0xe9b5dba5,
      0x3956c25b, 0x59f111f1, 0x923f82a4, 0xab1c5ed5,
      0xd807aa98, 0x12835b01, 0x243185be, 0x550c7dc3,
      0x72be5d74, 0x80deb1fe, 0x9bdc06a7, 0xc19bf174,
      0xe49b69c1, 0xefbe4786, 0x0fc19dc6, 0x240ca1cc,
      0x2de92c6f, 0x4a7484aa, 0x5cb0a9dc, 0x76f988da,
      0x983e5152, 0xa831c66d, 0xb00327c8, 0xbf597fc7,
      0xc6e00bf3, 0xd5a79147, 0x06ca6351, 0x14292967,
      0x27b70a85, 0x2e1b2138, 0x4d2c6dfc, 0x53380d13,
      0x650a7354, 0x766a0abb, 0x81c2c92e, 0x92722c85,
      0xa2bfe8a1, 0xa81a664b, 0xc24b8b70, 0xc76c51a3,
      0xd192e819, 0xd6990624, 0xf40e3585, 0x106aa070,
      0x19a4c116, 0x1e376c08, 0x2748774c, 0x34b0bcb5,
      0x391c0cb3, 0x4ed8aa4a, 0x5b9cca4f, 0x682e6ff3,
      0x748f82ee, 0x78a5636f, 0x84c87814, 0x8cc70208,
      0x90befffa, 0xa4506ceb, 0xbef9a3f7, 0xc67178f2,
    };

    final Row noContext;
    final Row firstKey;
    private final Row text;
    private final Row inner;
    private final int[] words;
    private final int[] sums;

    Hash() {
      noContext = new Row(0);
      firstKey = new Row(20);
      for (int b = 1; b <= 20; b++) {
        firstKey.put(b);
      }
      text = new Row(TEXT_ROOM);
      inner = new Row(KEY_SIZE);
      words = new int[64];
      sums = new int[8];
    }

    void digest(Row bytes, Row out) {
      text.become(bytes);
      closeText(out);
    }

    /** The key is read before out is written, so both may be the same row. */
    void mac(Row key, Row bytes, Row out) {
      openText(key, INNER_MASK);
      text.putFrom(bytes, 0);
      closeText(inner);
      openText(key, OUTER_MASK);
      text.putFrom(inner, 0);
      closeText(out);
    }

    /** The MAC is written out here too: through mac, calls would go more than eight deep. */
    void label(Row key, int w, Row context, Row out) {
      openText(key, INNER_MASK);
      putLabel(nameOf(w), context);
      closeText(inner);
      openText(key, OUTER_MASK);
      text.putFrom(inner, 0);
      closeText(out);
    }

    private void putLabel(String name, Row context) {
      text.put(0);
      text.put(KEY_SIZE);
      text.put(name.length());
      for (int i = 0; i < name.length(); i++) {
        text.put(name.charAt(i));
      }
      text.put(context.size);
      text.putFrom(context, 0);
      text.put(1);
    }

    private static String nameOf(int w) {
      switch (w) {
        case 4:
          return "v1 first a";
        case 5:
          return "v1 first b";
        case 6:
          return "v1 greet a";
        case 7:
          return "v1 greet b";
        case 8:
          return "v1 talk a";
        case 9:
          return "v1 talk b";
        default:
          return "v1 done";
      }
    }

    private void openText(Row key, int mask) {
      text.clear();
      for (int i = 0; i < BLOCK; i++) {
        text.put(key.at(i) ^ mask);
      }
    }

    private void closeText(Row out) {
      int bits = 8 * text.size;
      int zeros = Math.floorMod(BLOCK - 9 - text.size, BLOCK);
      text.put(128);
      // The number of bits is far below four bytes' worth, so its four highest bytes are 0s too.
      for (int i = 0; i < zeros + 4; i++) {
        text.put(0);
      }
      for (int shift = 24; shift >= 0; shift -= 8) {
        text.put(bits >>> shift);
      }
      startSums();
      for (int from = 0; from + BLOCK <= text.size; from += BLOCK) {
        spread(from);
        stir();
      }
      out.clear();
      for (int i = 0; i < 32; i++) {
        out.put(sums[i >>> 2] >>> (24 - 8 * (i & 3)));
      }
    }

    private void startSums() {
      for (int i = 0; i < 8; i++) {
        sums[i] = ROOTS[i];
      }
    }

    private void spread(int from) {
      int[] bytes = text.cells;
      if (from < 0 || from > bytes.length - BLOCK) {
        return;
      }
      for (int t = 0; t < 16; t++) {
        int i = from + 4 * t;
        words[t] = bytes[i] << 24 | bytes[i + 1] << 16 | bytes[i + 2] << 8 | bytes[i + 3];
      }
      for (int t = 16; t < 64; t++) {
        int x = words[t - 15];
        int y = words[t - 2];
        int s = (x >>> 7 | x << 25) ^ (x >>> 18 | x << 14) ^ x >>> 3;
        int r = (y >>> 17 | y << 15) ^ (y >>> 19 | y << 13) ^ y >>> 10;
        words[t] = words[t - 16] + s + words[t - 7] + r;
      }
    }

    private void stir() {
      int a = sums[0];
      int b = sums[1];
      int c = sums[2];
      int d = sums[3];
      int e = sums[4];
      int f = sums[5];
      int g = sums[6];
      int h = sums[7];
      for (int t = 0; t < 64; t++) {
        int turnedE = (e >>> 6 | e << 26) ^ (e >>> 11 | e << 21) ^ (e >>> 25 | e << 7);
        int chosen = e & f ^ ~e & g;
        int p = h + turnedE + chosen + CUBE_ROOTS[t] + words[t];
        int turnedA = (a >>> 2 | a << 30) ^ (a >>> 13 | a << 19) ^ (a >>> 22 | a << 10);
        int most = a & b ^ a & c ^ b & c;
        int q = turnedA + most;
        h = g;
        g = f;
        f = e;
        e = d + p;
        d = c;
        c = b;
        b = a;
        a = p + q;
      }
      sums[0] += a;
      sums[1] += b;
      sums[2] += c;
      sums[3] += d;
      sums[4] += e;
      sums[5] += f;
      sums[6] += g;
      sums[7] += h;
    }
  }

  /** One side: what it was told, what it has heard and sent, and the secrets that it has. */
  private static final class Side {
    private static final int LARGEST_HELLO = HEAD_SIZE + KEY_SIZE + MOST_PARAMETERS;
    private static final int LARGEST_PARAMETERS = HEAD_SIZE + MOST_PARAMETERS;
    private static final int PLAIN_MESSAGE = HEAD_SIZE + KEY_SIZE;

    final int number;
    final Row key;
    final Row random;
    final Row others;
    boolean othersKnown;
    boolean begun;
    boolean finished;
    int fault;
    int wanted;
    private final Hash hash;
    private final Row parameters;
    private final Row waiting;
    /** All messages in order, its own and the other side's. */
    private final Row story;
    private final Row storySum;
    private final Row proof;
    private final Line lowLine;
    private final Line highLine;
    private final Pair first;
    private final Pair greet;
    private final Pair talk;

    Side(int number, Hash hash) {
      this.number = number;
      this.hash = hash;
      key = new Row(KEY_SIZE);
      random = new Row(KEY_SIZE);
      parameters = new Row(MOST_PARAMETERS);
      others = new Row(MOST_PARAMETERS);
      waiting = new Row(LARGEST_HELLO);
      story = new Row(LARGEST_HELLO + LARGEST_PARAMETERS + 3 * PLAIN_MESSAGE);
      storySum = new Row(KEY_SIZE);
      proof = new Row(KEY_SIZE);
      lowLine = new Line(LARGEST_HELLO);
      highLine = new Line(LARGEST_PARAMETERS + PLAIN_MESSAGE);
      first = new Pair();
      greet = new Pair();
      talk = new Pair();
      othersKnown = false;
      begun = false;
      finished = false;
      fault = 0;
      wanted = NOTHING;
    }

    boolean isOpen() {
      return begun && fault == 0;
    }

    Line lineAt(int level) {
      return level == 0 ? lowLine : highLine;
    }

    Pair pairAt(int level) {
      return level == 0 ? first : level == 1 ? greet : talk;
    }

    int waitingAt(int level) {
      return level == levelOf(wanted) ? waiting.size : 0;
    }

    int highestLevel() {
      if (talk.isMade()) {
        return 2;
      }
      if (greet.isMade()) {
        return 1;
      }
      return first.isMade() ? 0 : -1;
    }

    void learn(int what, Row bytes) {
      switch (what) {
        case TELL_KEY:
          key.become(bytes);
          break;
        case TELL_RANDOM:
          random.become(bytes);
          break;
        case TELL_PARAMETERS:
          parameters.become(bytes);
          break;
        default:
          makeFirst(bytes);
          break;
      }
    }

    void start() {
      begun = true;
      if (number == 0) {
        sayHello();
        wanted = ANSWER;
      } else {
        wanted = HELLO;
      }
    }

    /** Byte by byte, so that a fault counts as soon as its byte is there, and none behind it. */
    int hear(int level, Row bytes, int from, int count) {
      for (int i = 0; i < count && fault == 0; i++) {
        waiting.put(bytes.at(from + i));
        fault = faultAt(level);
        if (fault == 0 && isWhole()) {
          readMessage();
          waiting.clear();
        }
      }
      if (fault != 0) {
        waiting.clear();
        wanted = NOTHING;
      }
      return fault;
    }

    private int faultAt(int level) {
      if (level != levelOf(wanted) || waiting.at(0) != wanted) {
        return WRONG_TYPE;
      }
      if (waiting.size >= HEAD_SIZE && !isSizeOf(wanted, bodySize())) {
        return WRONG_SIZE;
      }
      return 0;
    }

    private boolean isWhole() {
      return waiting.size >= HEAD_SIZE && waiting.size == HEAD_SIZE + bodySize();
    }

    private int bodySize() {
      return waiting.at(1) << 16 | waiting.at(2) << 8 | waiting.at(3);
    }

    private static int levelOf(int type) {
      switch (type) {
        case HELLO:
        case ANSWER:
          return 0;
        case PARAMETERS:
        case DONE:
          return 1;
        default:
          return -1;
      }
    }

    private static boolean isSizeOf(int type, int size) {
      switch (type) {
        case HELLO:
          return size >= KEY_SIZE && size <= KEY_SIZE + MOST_PARAMETERS;
        case PARAMETERS:
          return size <= MOST_PARAMETERS;
        default:
          return size == KEY_SIZE;
      }
    }

    private void readMessage() {
      switch (wanted) {
        case HELLO:
          readHello();
          break;
        case ANSWER:
          readAnswer();
          break;
        case PARAMETERS:
          readParameters();
          break;
        default:
          readDone();
          break;
      }
    }

    private void readHello() {
      keepOthers(HEAD_SIZE + KEY_SIZE);
      story.putFrom(waiting, 0);
      say(ANSWER, random);
      makeSecrets(greet, 6, key);
      say(PARAMETERS, parameters);
      makeProof(1);
      say(DONE, proof);
      makeSecrets(talk, 8, greet.root);
      wanted = DONE;
    }

    private void readAnswer() {
      story.putFrom(waiting, 0);
      makeSecrets(greet, 6, key);
      wanted = PARAMETERS;
    }

    private void readParameters() {
      keepOthers(HEAD_SIZE);
      story.putFrom(waiting, 0);
      wanted = DONE;
    }

    private void readDone() {
      makeProof(1 - number);
      if (!waiting.isSameFrom(HEAD_SIZE, proof)) {
        fault = WRONG_PROOF;
        return;
      }
      if (number == 0) {
        story.putFrom(waiting, 0);
        makeSecrets(talk, 8, greet.root);
        makeProof(0);
        say(DONE, proof);
      }
      finished = true;
      wanted = NOTHING;
    }

    private void keepOthers(int from) {
      others.clear();
      others.putFrom(waiting, from);
      othersKnown = true;
    }

    private void sayHello() {
      // The body is put together in the row for heard bytes, which is empty before a side has begun.
      waiting.become(random);
      waiting.putFrom(parameters, 0);
      say(HELLO, waiting);
      waiting.clear();
    }

    private void say(int type, Row body) {
      lineAt(levelOf(type)).bytes.putMessage(type, body);
      story.putMessage(type, body);
    }

    private void makeFirst(Row name) {
      hash.mac(hash.firstKey, name, first.root);
      hash.label(first.root, 4, hash.noContext, first.ofAsker);
      hash.label(first.root, 5, hash.noContext, first.ofAnswerer);
    }

    /** Of the story so far: called where it has come to the messages that the secrets hang on. */
    private void makeSecrets(Pair pair, int w, Row under) {
      hash.digest(story, storySum);
      hash.mac(under, storySum, pair.root);
      hash.label(pair.root, w, storySum, pair.ofAsker);
      hash.label(pair.root, w + 1, storySum, pair.ofAnswerer);
    }

    /** Of the story so far, as the secrets are. */
    private void makeProof(int side) {
      hash.label(greet.secretOf(side), 10, hash.noContext, proof);
      hash.digest(story, storySum);
      hash.mac(proof, storySum, proof);
    }
  }
}
