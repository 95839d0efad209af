import java.nio.charset.StandardCharsets;
import java.util.function.IntToLongFunction;
import java.util.function.LongUnaryOperator;

/** What all tests share: counts and prints answers that are not as due; feeds texts. */
final class Due {
  private int wrong = 0;
  private int asked = 0;
  private String sentence = "";
  private int sentences = 0;
  private int askedAhead = 0;

  /** From here on the answers that are asked for hold this sentence of the document. */
  void said(String next) {
    closeSentence();
    sentence = next;
    sentences++;
    askedAhead = asked;
  }

  private void closeSentence() {
    if (!sentence.isEmpty() && asked == askedAhead) {
      wrong++;
      System.out.println("no answer was asked for \"" + sentence + "\"");
    }
    sentence = "";
  }

  void due(String call, long got, long want) {
    asked++;
    if (got != want) {
      wrong++;
      System.out.println((sentence.isEmpty() ? "" : "[" + sentence + "] ") + call + " answered " + got + ", due is " + want);
    }
  }

  void due(String call, boolean holds) {
    due(call, holds ? 1 : 0, 1);
  }

  /**
   * The last numbers within the bounds are answered as wanted; the first ones outside and those
   * that a narrower number would take for one within are refused. Each call has its own object.
   */
  void edges(String call, int least, int greatest, long refusal, IntToLongFunction ask, IntToLongFunction want) {
    longEdges(call, least, greatest, refusal, n -> ask.applyAsLong((int) n), n -> want.applyAsLong((int) n));
    long[] outside = {Integer.MIN_VALUE, Integer.MIN_VALUE + 1L, Integer.MAX_VALUE, Integer.MAX_VALUE - 1L,
      least + 65536L * 65535, greatest - 65536L * 65535, least + 131072L, greatest - 131072L};
    for (long n : outside) {
      boolean isOut = n == (int) n && (n < least || n > greatest);
      if (isOut) {
        due(call + " of " + n, ask.applyAsLong((int) n), refusal);
      }
    }
  }

  void longEdges(String call, long least, long greatest, long refusal, LongUnaryOperator ask, LongUnaryOperator want) {
    for (long n : new long[] {least, greatest}) {
      due(call + " of " + n, ask.applyAsLong(n), want.applyAsLong(n));
    }
    for (long n : new long[] {least - 1, greatest + 1}) {
      due(call + " of " + n, ask.applyAsLong(n), refusal);
    }
  }

  /** Prints how it went and ends the program, with 1 if an answer was wrong. */
  void end() {
    closeSentence();
    System.out.println(asked + " answers" + (sentences == 0 ? "" : " to " + sentences + " sentences") + ", " + wrong + " not as due");
    System.exit(wrong == 0 && asked > 0 ? 0 : 1);
  }

  static void feed(FarCandles x, String text) {
    byte[] bytes = text.getBytes(StandardCharsets.ISO_8859_1);
    for (int at = 0; at < bytes.length; at += 8) {
      int n = Math.min(8, bytes.length - at);
      x.feed(n, asLong(bytes, at, n));
    }
  }

  static long asLong(byte[] bytes, int at, int n) {
    long value = 0;
    for (int k = 0; k < n; k++) {
      value = value << 8 | bytes[at + k] & 255;
    }
    return value;
  }

  static int read(FarCandles x, String text) {
    feed(x, text);
    return x.read();
  }

  /** A new object by whose rules this text is. */
  static FarCandles ruled(String text) {
    FarCandles x = new FarCandles();
    read(x, text);
    return x;
  }

  /**
   * By list 0: home 0 at a shift, homes 1 to 6 each one step further by two lights of a sort, of which
   * the nearer has this brightness and the farther that one; all as wide as rules can make it.
   */
  static FarCandles widestWay(int shift, int nearer, int farther) {
    StringBuilder text = new StringBuilder("dust0to99;");
    for (int sort = 0; sort < 6; sort++) {
      text.append("sort").append(sort).append("time-9999to9999colour-9999to9999;");
    }
    FarCandles x = ruled(text.toString());
    x.shift(0, 0, shift, shift);
    for (int sort = 0; sort < 6; sort++) {
      x.redden(sort, 0, 2000);
      x.light(0, sort, sort, nearer, 999, 3000, 3000);
      x.light(0, sort, sort + 1, farther, 999, 3000, 3000);
    }
    x.redden(6, 0, 2000);
    return x;
  }

  /** Reads a text on an object of its own: its answer and the place of its fault are as due. */
  void dueText(String text, int want, int place) {
    FarCandles x = new FarCandles();
    String called = "\"" + text + "\"";
    due("read " + called, read(x, text), want);
    due("fault of " + called, x.fault(), place);
    due("bytes behind " + called, x.count(6), 0);
  }
}
