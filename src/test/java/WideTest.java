/** Promises 24 to 27: far, boxes, box, delay. */
public final class WideTest {
  private static final Due D = new Due();
  private static final int NONE = FarCandles.NONE, UNKNOWN = FarCandles.UNKNOWN, OUTSIDE = FarCandles.OUTSIDE;
  private static final int NOT = FarCandles.NOT, QUARREL = FarCandles.QUARREL;

  public static void main(String[] args) {
    far();
    farGrows();
    boxes();
    manySpeak();
    delay();
    D.end();
  }

  private static void far(int f, long least, long most) {
    FarCandles x = new FarCandles();
    D.due("far(" + f + ", 0)", x.far(f, 0), least);
    D.due("far(" + f + ", 1)", x.far(f, 1), most);
  }

  private static void far() {
    far(0, 1000, 1000);
    far(1, 1000, 1048);
    far(99, 1000, 1048);
    far(100, 1047, 1048);
    far(101, 1047, 1097);
    far(2500, 3162, 3163);
    far(4899, 9120, 9550);
    far(4900, 9549, 9550);
    far(4901, 9549, 10000);
    far(4999, 9549, 10000);
    far(5000, 10000, 10000);
    far(5001, 10000, 10480);
    far(12550, 316200, 331200);
    far(39900, 95490000000L, 95500000000L);
    far(39999, 95490000000L, 100000000000L);
    far(40000, 100000000000L, 100000000000L);
    FarCandles x = new FarCandles();
    D.due("below", x.far(-1, 0), OUTSIDE);
    D.due("above", x.far(40001, 1), OUTSIDE);
    D.due("far below", x.far(Integer.MIN_VALUE, 1), OUTSIDE);
    D.due("far above", x.far(Integer.MAX_VALUE, 1), OUTSIDE);
    D.due("no such what", x.far(0, 2), OUTSIDE);
    D.due("no such what", x.far(0, -1), OUTSIDE);
  }

  /** The table is near ten to the fifth part of a thousandth: a wrong number in it shows. */
  private static void farGrows() {
    for (int f = 0; f <= 40000; f += 100) {
      FarCandles x = new FarCandles();
      double real = 1000 * Math.pow(10, f / 5000.0);
      D.due("far(" + f + ", 0) is not above", x.far(f, 0) <= real * 1.0000001);
      D.due("far(" + f + ", 1) is not below", x.far(f, 1) >= real * 0.9999999);
      D.due("far(" + f + ") is near", x.far(f, 1) - x.far(f, 0) <= real / 999);
    }
  }

  private static void boxes(FarCandles x, int... wants) {
    for (int what = 0; what < wants.length; what++) {
      D.due("boxes(" + what + ")", x.boxes(what), wants[what]);
    }
  }

  private static void boxes() {
    FarCandles x = new FarCandles();
    boxes(x, 200, 1, 200, 0);
    D.due("no such what", x.boxes(4), OUTSIDE);
    D.due("no such what", x.boxes(-1), OUTSIDE);
    D.due("no box", x.box(0), OUTSIDE);
    D.due("no box", x.box(201), OUTSIDE);
    D.due("kept", x.box(1), NONE);
    D.due("kept", x.box(200), NONE);
    x.redness(3, 100);
    boxes(x, 200, 1, 200, 0);
    x.shift(0, 3, 0, 0);
    boxes(x, 1, 100, 100, 1);
    D.due("below it", x.box(99), 3);
    D.due("above it", x.box(101), 3);
    Due.read(x, "own 2;");
    boxes(x, 5, 98, 102, 1);
    Due.read(x, "own 99;");
    boxes(x, 199, 1, 199, 1);
    x.redness(3, 99999);
    boxes(x, 0, NONE, NONE, 1);
    Due.read(x, "");
    x.leave(0, true);
    x.shift(0, 3, 100, 150);
    x.redness(3, 200);
    // FLOOR of 1.047 g is not above 200, CEILING of 1.097 g not below it.
    boxes(x, 191 - 182 + 1, 182, 191, 1);
    x.shift(0, 3, 200, 250);
    D.due("they quarrel", x.boxes(0), QUARREL);
    D.due("they quarrel", x.boxes(3), QUARREL);
    D.due("they quarrel", x.box(1), QUARREL);
    D.due("OUTSIDE is ahead", x.boxes(4), OUTSIDE);
    D.due("OUTSIDE is ahead", x.box(201), OUTSIDE);
  }

  private static void manySpeak() {
    FarCandles x = new FarCandles();
    x.shift(0, 0, 0, 40000);
    x.shift(0, 1, -1, 40000);
    x.shift(0, 2, 1, 20000);
    x.light(0, 0, 1, 0, 0, 0, 0);
    x.light(0, 0, 3, 1, 0, 0, 0);
    x.shift(0, 5, 10000, 10000);
    for (int home = 0; home < 6; home++) {
      x.redness(home, 5000);
    }
    // Homes 0, 2 and 5 speak: 1 reaches below 0, 3 above 40000, 4 is loose.
    D.due("how many speak", x.boxes(3), 3);
    boxes(x, 1, 50, 50, 3);
    D.due("home 5 cannot have it", x.box(49), 5);
    x.redness(0, 0);
    D.due("home 0 is the first that cannot", x.box(49), 0);
    D.due("home 0 cannot have 50", x.box(50), 0);
    x.redness(0, NONE);
    x.redness(2, 99999);
    D.due("home 2 could", x.box(50), NONE);
    x.shift(0, 5, 10000, 40000);
    D.due("as before", x.box(49), 5);
    x.leave(5, true);
    D.due("home 5 reaches further now", x.box(49), NONE);
    D.due("and not nearer", x.box(51), 5);
    x.leave(5, false);
    x.blind(999);
    D.due("real ends", x.box(50), NONE);
    D.due("real ends", x.boxes(3), 2);
    FarCandles y = new FarCandles();
    y.shift(0, 0, 40000, 40000);
    y.redness(0, 99999);
    boxes(y, 0, NONE, NONE, 1);
    D.due("too far for any", y.box(200), 0);
  }

  private static void delay() {
    FarCandles x = new FarCandles();
    x.shift(0, 0, 5000, 5100);
    x.shift(0, 1, 0, 40000);
    x.shift(0, 2, -1, 40000);
    x.light(0, 0, 1, 0, 0, 0, 0);
    x.light(0, 0, 3, 1, 0, 0, 0);
    D.due("below it", x.delay(0, 1, 9999), 1);
    D.due("it touches below", x.delay(0, 1, 10000), 0);
    D.due("within", x.delay(0, 10100, 10200), 0);
    D.due("around", x.delay(0, 1, 2000000000), 0);
    D.due("it touches above", x.delay(0, 10480, 2000000000), 0);
    D.due("above it", x.delay(0, 10481, 2000000000), 1);
    D.due("the most above", x.delay(0, 2000000000, 2000000000), 1999989520);
    D.due("wide ends", x.delay(1, 1, 1), 999);
    D.due("reaches below 0", x.delay(2, 1, 1), NOT);
    D.due("reaches above 40000", x.delay(3, 1, 1), NOT);
    D.due("loose", x.delay(4, 1, 1), NOT);
    D.due("no home", x.delay(10, 1, 1), UNKNOWN);
    D.due("no home", x.delay(-1, 0, 0), UNKNOWN);
    D.due("u below", x.delay(0, 0, 1), OUTSIDE);
    D.due("v above", x.delay(0, 1, 2000000001), OUTSIDE);
    D.due("v below u", x.delay(0, 2, 1), OUTSIDE);
    D.due("far out", x.delay(0, Long.MIN_VALUE, Long.MAX_VALUE), OUTSIDE);
    D.due("far out", x.delay(0, 1L << 32, 1L << 33), OUTSIDE);
    D.due("OUTSIDE is ahead of NOT", x.delay(4, 0, 1), OUTSIDE);
    x.blind(999);
    D.due("real ends", x.delay(0, 1, 9999), 1);
    x.leave(0, true);
    D.due("loose by now", x.delay(0, 1, 9999), NOT);
    x.shift(0, 0, 0, 0);
    D.due("nearer by now", x.delay(0, 1, 1), 999);
    FarCandles y = new FarCandles();
    y.shift(0, 0, 40000, 40000);
    D.due("the farthest", y.delay(0, 1, 2000000000), 98000000000L);
    y.shift(0, 0, 0, 0);
    D.due("they quarrel", y.delay(0, 1, 1), QUARREL);
    D.due("QUARREL is ahead of NOT", y.delay(4, 1, 1), QUARREL);
    D.due("OUTSIDE is ahead of QUARREL", y.delay(0, 2, 1), OUTSIDE);
  }
}
