import java.nio.charset.StandardCharsets;
import java.security.GeneralSecurityException;
import java.security.MessageDigest;
import javax.crypto.Mac;
import javax.crypto.spec.SecretKeySpec;

/** What a greeting must come to, by the Java library's own SHA-256 and HMAC. */
final class Oracle {
  final int[] hello;
  final int[] answer;
  final int[] parameters;
  final int[] done1;
  final int[] done0;
  final int[][] greet = new int[2][];
  final int[][] talk = new int[2][];

  Oracle(int[] key, int[] random0, int[] parameters0, int[] random1, int[] parameters1) {
    hello = message(1, join(random0, parameters0));
    answer = message(2, random1);
    parameters = message(8, parameters1);
    int[] d2 = digest(join(hello, answer));
    int[] greetRoot = mac(key, d2);
    greet[0] = label(greetRoot, "v1 greet a", d2);
    greet[1] = label(greetRoot, "v1 greet b", d2);
    int[] d3 = digest(join(hello, answer, parameters));
    done1 = message(20, mac(label(greet[1], "v1 done", new int[0]), d3));
    int[] d4 = digest(join(hello, answer, parameters, done1));
    int[] talkRoot = mac(greetRoot, d4);
    talk[0] = label(talkRoot, "v1 talk a", d4);
    talk[1] = label(talkRoot, "v1 talk b", d4);
    done0 = message(20, mac(label(greet[0], "v1 done", new int[0]), d4));
  }

  static int[] first(int[] name, int side) {
    int[] key = new int[20];
    for (int i = 0; i < 20; i++) {
      key[i] = i + 1;
    }
    return label(mac(key, name), side == 0 ? "v1 first a" : "v1 first b", new int[0]);
  }

  static int[] message(int type, int[] body) {
    return join(new int[] {type, body.length / 65536, body.length / 256 % 256, body.length % 256}, body);
  }

  static int[] label(int[] key, String text, int[] context) {
    byte[] name = text.getBytes(StandardCharsets.US_ASCII);
    return mac(key, join(new int[] {0, 32, name.length}, ints(name), new int[] {context.length}, context,
        new int[] {1}));
  }

  static int[] digest(int[] bytes) {
    try {
      return ints(MessageDigest.getInstance("SHA-256").digest(bytes(bytes)));
    } catch (GeneralSecurityException e) {
      throw new AssertionError(e);
    }
  }

  static int[] mac(int[] key, int[] bytes) {
    try {
      Mac mac = Mac.getInstance("HmacSHA256");
      mac.init(new SecretKeySpec(bytes(key), "HmacSHA256"));
      return ints(mac.doFinal(bytes(bytes)));
    } catch (GeneralSecurityException e) {
      throw new AssertionError(e);
    }
  }

  static int[] join(int[]... parts) {
    int size = 0;
    for (int[] part : parts) {
      size += part.length;
    }
    int[] all = new int[size];
    int at = 0;
    for (int[] part : parts) {
      System.arraycopy(part, 0, all, at, part.length);
      at += part.length;
    }
    return all;
  }

  private static byte[] bytes(int[] from) {
    byte[] to = new byte[from.length];
    for (int i = 0; i < from.length; i++) {
      to[i] = (byte) from[i];
    }
    return to;
  }

  private static int[] ints(byte[] from) {
    int[] to = new int[from.length];
    for (int i = 0; i < from.length; i++) {
      to[i] = from[i] & 255;
    }
    return to;
  }
}
