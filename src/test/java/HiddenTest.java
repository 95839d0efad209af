/** Promises 28 to 30: the hidden number and the claims. */
public final class HiddenTest {
  private static final Due D = new Due();
  private static final int UNKNOWN = FarCandles.UNKNOWN, OUTSIDE = FarCandles.OUTSIDE, NOT = FarCandles.NOT;

  public static void main(String[] args) {
    blind();
    hiddenNone();
    open();
    claimsStand();
    claims();
    D.end();
  }

  private static void blind() {
    FarCandles x = new FarCandles();
    x.shift(0, 0, 100, 200);
    D.due("below", x.blind(-1000), OUTSIDE);
    D.due("above", x.blind(1000), OUTSIDE);
    D.due("none is on", x.count(7), 0);
    D.due("none is on", x.open(), NOT);
    D.due("blind", x.blind(-999), 1);
    D.due("once only", x.blind(5), NOT);
    D.due("OUTSIDE is ahead of NOT", x.blind(1000), OUTSIDE);
    D.due("on the lower end", x.ends(0, -1, 0), -899);
    D.due("on the upper end", x.ends(0, 1, 1), -799);
    D.due("not on LOOSE", x.ends(1, -1, 0), FarCandles.LOOSE);
    D.due("not on a refusal", x.ends(0, 2, 0), OUTSIDE);
    D.due("not on what is told", x.told(0, 5), 100);
    x.shift(0, 0, 300, 400);
    D.due("not on QUARREL", x.ends(0, -1, 0), FarCandles.QUARREL);
  }

  /** A hidden 0 is on all the same. */
  private static void hiddenNone() {
    FarCandles x = new FarCandles();
    D.due("blind", x.blind(0), 1);
    D.due("on", x.count(7), 1);
    D.due("once only", x.blind(1), NOT);
    D.due("open", x.open(), 0);
    D.due("off", x.count(7), 0);
    D.due("opened once", x.open(), NOT);
  }

  private static void open() {
    FarCandles x = new FarCandles();
    x.shift(0, 0, 100, 200);
    x.blind(999);
    D.due("hidden", x.ends(0, -1, 1), 1199);
    D.due("open", x.open(), 999);
    D.due("real", x.ends(0, -1, 1), 200);
    D.due("real", x.ends(0, -1, 0), 100);
    D.due("opened once", x.open(), NOT);
    D.due("put once, be it opened or not", x.blind(7), NOT);
    D.due("real still", x.ends(0, -1, 0), 100);
  }

  private static void stands(String text, int want) {
    FarCandles x = new FarCandles();
    x.shift(0, 0, 100, 200);
    x.blind(500);
    D.due("read " + text, Due.read(x, text), 1);
    D.due(text, x.claim(0, 0), want);
  }

  private static void claimsStand() {
    stands("claim 0 above 99;", 1);
    stands("claim 0 above 100;", 0);
    stands("claim 0 above 199;", 0);
    stands("claim 0 above 200;", 2);
    stands("claim 0 below 201;", 1);
    stands("claim 0 below 200;", 0);
    stands("claim 0 below 101;", 0);
    stands("claim 0 below 100;", 2);
    stands("claim 1 above -40000;", 0);
    stands("claim 1 below 40000;", 0);
  }

  private static void claims() {
    FarCandles x = new FarCandles();
    Due.read(x, "claim 3 above -77;own 5;claim 4 below 88;");
    int[][] wants = {{0, 3, -77, 1}, {0, 4, 88, 0}};
    for (int i = 0; i < wants.length; i++) {
      for (int what = 0; what < 4; what++) {
        D.due("claim(" + i + ", " + what + ")", x.claim(i, what), wants[i][what]);
      }
    }
    D.due("no claim", x.claim(2, 0), UNKNOWN);
    D.due("no claim", x.claim(-1, 9), UNKNOWN);
    D.due("no such what", x.claim(0, 4), OUTSIDE);
    D.due("no such what", x.claim(0, -1), OUTSIDE);
    x.shift(0, 9, 0, 0);
    x.shift(0, 9, 1, 1);
    D.due("they quarrel", x.claim(0, 0), FarCandles.QUARREL);
    D.due("its home all the same", x.claim(0, 1), 3);
    D.due("its M all the same", x.claim(1, 2), 88);
    D.due("OUTSIDE is ahead of QUARREL", x.claim(0, 4), OUTSIDE);
    Due.read(x, "");
    D.due("no claim any more", x.claim(0, 1), UNKNOWN);
  }
}
