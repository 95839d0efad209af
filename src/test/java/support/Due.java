import java.nio.charset.StandardCharsets;

/** What all tests share: counts and prints answers that are not as due; feeds texts. */
final class Due {
  private int wrong = 0;
  private int asked = 0;

  void due(String call, long got, long want) {
    asked++;
    if (got != want) {
      wrong++;
      System.out.println(call + " answered " + got + ", due is " + want);
    }
  }

  void due(String call, boolean holds) {
    due(call, holds ? 1 : 0, 1);
  }

  /** Prints how it went and ends the program, with 1 if an answer was wrong. */
  void end() {
    System.out.println(asked + " answers, " + wrong + " not as due");
    System.exit(wrong == 0 && asked > 0 ? 0 : 1);
  }

  static void feed(FarCandles x, String text) {
    byte[] bytes = text.getBytes(StandardCharsets.ISO_8859_1);
    for (int at = 0; at < bytes.length; at += 8) {
      int n = Math.min(8, bytes.length - at);
      x.feed(n, asLong(bytes, at, n));
    }
  }

  static long asLong(byte[] bytes, int at, int n) {
    long value = 0;
    for (int k = 0; k < n; k++) {
      value = value << 8 | bytes[at + k] & 255;
    }
    return value;
  }

  static int read(FarCandles x, String text) {
    feed(x, text);
    return x.read();
  }

  /** Reads a text on an object of its own: its answer and the place of its fault are as due. */
  void dueText(String text, int want, int place) {
    FarCandles x = new FarCandles();
    String called = "\"" + text + "\"";
    due("read " + called, read(x, text), want);
    due("fault of " + called, x.fault(), place);
    due("bytes behind " + called, x.count(6), 0);
  }
}
