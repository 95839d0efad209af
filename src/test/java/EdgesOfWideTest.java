import java.math.BigInteger;

/** Part 4 and promises 24 to 27: each sentence that names a bound, at that bound. */
public final class EdgesOfWideTest {
  private static final Due D = new Due();
  private static final int NONE = FarCandles.NONE, OUTSIDE = FarCandles.OUTSIDE, NOT = FarCandles.NOT;
  private static final int QUARREL = FarCandles.QUARREL;
  private static final long MOST_DELAY = 2000000000L;
  private static final int[] TABLE = {
    1000, 1047, 1096, 1148, 1202, 1258, 1318, 1380, 1445, 1513, 1584, 1659, 1737, 1819, 1905, 1995, 2089, 2187, 2290,
    2398, 2511, 2630, 2754, 2884, 3019, 3162, 3311, 3467, 3630, 3801, 3981, 4168, 4365, 4570, 4786, 5011, 5248, 5495,
    5754, 6025, 6309, 6606, 6918, 7244, 7585, 7943, 8317, 8709, 9120, 9549};

  public static void main(String[] args) {
    farness();
    farOfHundreds();
    farOfTens();
    farBetween();
    farOfFifty();
    boxNumbers();
    boxesNone();
    noHomeSpeaks();
    whichSpeak();
    lowestRedness();
    highestRedness();
    rednessAtItsBounds();
    own();
    leastAndGreatestBox();
    firstHome();
    realEnds();
    boxesQuarrel();
    delays();
    delayOfNoSpan();
    apart();
    apartAtItsMost();
    delayNot();
    D.end();
  }

  private static FarCandles shifted(int home, int u, int v) {
    FarCandles x = new FarCandles();
    x.shift(0, home, u, v);
    return x;
  }

  private static long tens(int j) {
    return BigInteger.TEN.pow(j).longValueExact();
  }

  private static void farness() {
    D.said("4: FAR of a FARNESS f (0 .. 40000); promise 24: what = 0 at least, 1 at most. OUTSIDE.");
    for (int w = 0; w < 2; w++) {
      int what = w;
      D.edges("far(f, " + what + ")", 0, 40000, OUTSIDE, f -> new FarCandles().far(f, what), f -> f == 0 ? 1000 : 100000000000L);
    }
    D.edges("far(150, what)", 0, 1, OUTSIDE, n -> new FarCandles().far(150, n), n -> n == 0 ? 1047 : 1097);
    D.due("in a quarrel too", quarrel().far(0, 0), 1000);
  }

  private static FarCandles quarrel() {
    FarCandles x = shifted(0, 0, 0);
    x.shift(0, 0, 1, 1);
    return x;
  }

  private static void farOfHundreds() {
    D.said("4: at least TABLE k times ten j times over; at most: TABLE k and 1 likewise, if f is 100 times some number");
    for (int j = 0; j < 8; j++) {
      FarCandles x = new FarCandles();
      for (int k = 1; k < 50; k++) {
        int f = 5000 * j + 100 * k;
        D.due("far(" + f + ", 0)", x.far(f, 0), TABLE[k] * tens(j));
        D.due("far(" + f + ", 1)", x.far(f, 1), (TABLE[k] + 1) * tens(j));
      }
    }
  }

  private static void farOfTens() {
    D.said("4: at most: that, if f is 100 times some number and k is 0");
    FarCandles x = new FarCandles();
    for (int j = 0; j <= 8; j++) {
      D.due("far(" + 5000 * j + ", 0)", x.far(5000 * j, 0), 1000 * tens(j));
      D.due("far(" + 5000 * j + ", 1)", x.far(5000 * j, 1), 1000 * tens(j));
    }
  }

  private static void farBetween() {
    D.said("4: else TABLE of k and 1, and 1, likewise");
    for (int j = 0; j < 8; j++) {
      for (int rest : new int[] {1, 50, 99}) {
        FarCandles x = new FarCandles();
        for (int k = 0; k < 49; k++) {
          int f = 5000 * j + 100 * k + rest;
          D.due("far(" + f + ", 0)", x.far(f, 0), TABLE[k] * tens(j));
          D.due("far(" + f + ", 1)", x.far(f, 1), (TABLE[k + 1] + 1) * tens(j));
        }
      }
    }
  }

  private static void farOfFifty() {
    D.said("4: (of 50: 10000 and no 1)");
    FarCandles x = new FarCandles();
    for (int j = 0; j < 8; j++) {
      for (int rest : new int[] {4901, 4950, 4999}) {
        D.due("far(" + (5000 * j + rest) + ", 0)", x.far(5000 * j + rest, 0), 9549 * tens(j));
        D.due("far(" + (5000 * j + rest) + ", 1)", x.far(5000 * j + rest, 1), 10000 * tens(j));
      }
    }
  }

  private static void boxNumbers() {
    D.said("4: A BOX is a number g (1 .. 200); promise 25: what = 0 .. 3; OUTSIDE");
    D.edges("box", 1, 200, OUTSIDE, g -> new FarCandles().box(g), g -> NONE);
    int[] wants = {200, 1, 200, 0};
    D.edges("boxes", 0, 3, OUTSIDE, n -> new FarCandles().boxes(n), n -> wants[n]);
    for (int g = 1; g <= 200; g++) {
      FarCandles x = shifted(4, 0, 0);
      x.redness(4, g);
      D.due("box " + g + " is kept", x.box(g), NONE);
      D.due("and no other", x.boxes(0), 1);
      D.due("it is the least", x.boxes(1), g);
      D.due("it is the greatest", x.boxes(2), g);
    }
  }

  private static void boxes(String when, FarCandles x, int... wants) {
    for (int what = 0; what < wants.length; what++) {
      D.due(when + ": boxes(" + what + ")", x.boxes(what), wants[what]);
    }
  }

  private static void boxesNone() {
    D.said("Promise 25: 1 the least, 2 the greatest (NONE)");
    FarCandles x = shifted(0, 0, 0);
    x.redness(0, 0);
    boxes("none so low", x, 0, NONE, NONE, 1);
    x.redness(0, 1);
    boxes("the first", x, 1, 1, 1, 1);
    x.redness(0, 200);
    boxes("the last", x, 1, 200, 200, 1);
    x.redness(0, 201);
    boxes("none so high", x, 0, NONE, NONE, 1);
    x.redness(0, 5);
    x.shift(0, 1, 0, 0);
    x.redness(1, 6);
    boxes("two that cannot agree", x, 0, NONE, NONE, 2);
  }

  private static void noHomeSpeaks() {
    D.said("4: KEPT, if each HOME that has REDNESS v and ENDS .. could have it: with none all are");
    boxes("none told", new FarCandles(), 200, 1, 200, 0);
    boxes("ends alone", shifted(0, 0, 0), 200, 1, 200, 0);
    FarCandles x = new FarCandles();
    x.redness(0, 5);
    boxes("redness alone", x, 200, 1, 200, 0);
    x.shift(0, 0, 0, 0);
    boxes("both", x, 1, 5, 5, 1);
    x.redness(0, NONE);
    boxes("none again", x, 200, 1, 200, 0);
    FarCandles all = new FarCandles();
    for (int home = 0; home < 10; home++) {
      all.shift(0, home, 0, 0);
      all.redness(home, 7);
      D.due("how many speak", all.boxes(3), home + 1);
    }
  }

  private static int speaking(String rules, int u, int v) {
    FarCandles x = Due.ruled(rules);
    x.shift(0, 9, u, v);
    x.redness(9, 0);
    return x.boxes(3);
  }

  private static void whichSpeak() {
    D.said("4: ENDS within 0 to 40000");
    D.due("0 to 40000", speaking("", 0, 40000), 1);
    D.due("0 to 0", speaking("", 0, 0), 1);
    D.due("40000 to 40000", speaking("", 40000, 40000), 1);
    D.due("-1 to 40000", speaking("", -1, 40000), 0);
    D.due("-1 to -1", speaking("", -1, -1), 0);
    D.due("0 to 40001", speaking("blur 0 by 1;", 1, 40000), 0);
    D.due("1 to 39999, blurred by 1", speaking("blur 0 by 1;", 1, 39999), 1);
    D.due("-1 to 39999", speaking("blur 0 by 1;", 0, 39998), 0);
    D.due("40001 to 40001", speakingFarOut(40001), 0);
    D.due("40000 to 40000", speakingFarOut(40000), 1);
    D.due("far below", speaking("", -40000, -40000), 0);
    D.due("all there is", speaking("", -40000, 40000), 0);
  }

  private static int speakingFarOut(int far) {
    FarCandles x = new FarCandles();
    x.anchor(0, 0, -20000, -20000);
    x.light(0, 0, 9, far - 20000, 0, 0, 0);
    x.redness(9, 0);
    D.due("its end", x.ends(9, NONE, 0), far);
    return x.boxes(3);
  }

  private static int boxOf(String rules, int u, int v, int redness, int g) {
    FarCandles x = Due.ruled(rules);
    x.shift(0, 3, u, v);
    x.redness(3, redness);
    return x.box(g);
  }

  private static void lowestRedness() {
    D.said("4: v lies from (FLOOR of g FAR at least of its lower END / 1000) less own");
    D.due("1047 / 1000", boxOf("", 100, 100, 1, 1), NONE);
    D.due("one below", boxOf("", 100, 100, 0, 1), 3);
    D.due("200 times 1047 / 1000 is 209.4", boxOf("", 100, 100, 209, 200), NONE);
    D.due("one below", boxOf("", 100, 100, 208, 200), 3);
    D.due("125 times 1096 / 1000 is 137", boxOf("", 200, 200, 137, 125), NONE);
    D.due("one below", boxOf("", 200, 200, 136, 125), 3);
    D.due("of a wide span the lower end", boxOf("", 100, 40000, 209, 200), NONE);
    D.due("one below", boxOf("", 100, 40000, 208, 200), 3);
    D.due("at least of a number between", boxOf("", 199, 40000, 209, 200), NONE);
    D.due("one below", boxOf("", 199, 40000, 208, 200), 3);
  }

  private static void highestRedness() {
    D.said("4: to (CEILING of g FAR at most of its upper END / 1000) and own");
    D.due("1048 / 1000", boxOf("", 100, 100, 2, 1), NONE);
    D.due("one above", boxOf("", 100, 100, 3, 1), 3);
    D.due("200 times 1048 / 1000 is 209.6", boxOf("", 100, 100, 210, 200), NONE);
    D.due("one above", boxOf("", 100, 100, 211, 200), 3);
    D.due("125 times 1048 / 1000 is 131", boxOf("", 100, 100, 131, 125), NONE);
    D.due("one above", boxOf("", 100, 100, 132, 125), 3);
    D.due("of a wide span the upper end", boxOf("", 0, 100, 210, 200), NONE);
    D.due("one above", boxOf("", 0, 100, 211, 200), 3);
    D.due("at most of a number between: 200 times 1048", boxOf("", 0, 1, 210, 200), NONE);
    D.due("one above", boxOf("", 0, 1, 211, 200), 3);
    D.due("a whole number", boxOf("", 0, 0, 200, 200), NONE);
    D.due("one above", boxOf("", 0, 0, 201, 200), 3);
  }

  private static void rednessAtItsBounds() {
    D.said("4: REDNESS of HOMES (0 .. 99999), held against a BOX");
    D.due("0, by no box", boxOf("", 0, 40000, 0, 1), 3);
    D.due("0 with own 1", boxOf("own 1;", 0, 40000, 0, 1), NONE);
    D.due("99999 within all", boxOf("", 0, 40000, 99999, 1), NONE);
    // 1000 times ten three times over: 100000 by box 100, 99000 by box 99.
    D.due("99999 below", boxOf("", 15000, 15000, 99999, 100), 3);
    D.due("99999 above", boxOf("", 15000, 15000, 99999, 99), 3);
    D.due("99999 with own 1", boxOf("own 1;", 15000, 15000, 99999, 100), NONE);
    D.due("99999 with own 998", boxOf("own 998;", 15000, 15000, 99999, 99), 3);
    D.due("99999 with own 999", boxOf("own 999;", 15000, 15000, 99999, 99), NONE);
    // 200 boxes of the farthest are 20000000000: no number that an int could hold.
    D.due("the farthest, greatest box", boxOf("own 9999;", 40000, 40000, 99999, 200), 3);
    D.due("the farthest, least box", boxOf("own 9999;", 40000, 40000, 99999, 1), 3);
    for (int g = 1; g <= 200; g++) {
      D.due("the farthest, box " + g, boxOf("", 40000, 40000, 99999, g), 3);
      D.due("to the farthest, box " + g, boxOf("", 0, 40000, 99999, g), NONE);
    }
  }

  private static void own() {
    D.said("4: less own .. and own (own 0 .. 9999)");
    FarCandles x = shifted(0, 0, 0);
    x.redness(0, 100);
    int[][] wants = {{0, 1, 100, 100}, {1, 3, 99, 101}, {99, 199, 1, 199}, {100, 200, 1, 200}, {9999, 200, 1, 200}};
    for (int[] w : wants) {
      Due.read(x, "own " + w[0] + ";");
      boxes("own " + w[0], x, w[1], w[2], w[3], 1);
    }
    x.redness(0, 10199);
    boxes("200 and 9999", x, 1, 200, 200, 1);
    x.redness(0, 10200);
    boxes("one more", x, 0, NONE, NONE, 1);
  }

  private static void leastAndGreatestBox() {
    D.said("Promise 25: how many are KEPT, the least, the greatest, with a gap between them or none");
    // FAR is 1000 at 0 and 10000 at 5000: so the redness lies from g to 10 g.
    FarCandles x = shifted(0, 0, 5000);
    x.redness(0, 100);
    boxes("from a tenth on", x, 91, 10, 100, 1);
    x.shift(0, 1, 0, 0);
    x.redness(1, 50);
    boxes("one within", x, 1, 50, 50, 2);
    x.redness(1, 9);
    boxes("none within", x, 0, NONE, NONE, 2);
    x.redness(1, 10);
    boxes("the least within", x, 1, 10, 10, 2);
    x.redness(1, 100);
    boxes("the greatest within", x, 1, 100, 100, 2);
    x.redness(1, 101);
    boxes("none within", x, 0, NONE, NONE, 2);
  }

  private static void firstHome() {
    D.said("Promise 26: NONE if it is, else the first HOME that cannot have it");
    FarCandles x = new FarCandles();
    for (int home = 0; home < 10; home++) {
      x.shift(0, home, 0, 0);
      x.redness(home, 50);
    }
    D.due("all could", x.box(50), NONE);
    D.due("none could", x.box(51), 0);
    D.due("none could", x.box(49), 0);
    for (int home = 9; home >= 0; home--) {
      x.redness(home, 51);
      D.due("those from " + home + " on cannot", x.box(50), home);
      D.due("those ahead of it cannot", x.box(51), home == 0 ? NONE : 0);
    }
    x.redness(0, NONE);
    x.leave(1, true);
    D.due("those that do not speak are passed", x.box(50), 2);
  }

  private static void realEnds() {
    D.said("4: (Real ENDS, without HIDDEN.)");
    for (int hidden : new int[] {-999, 999}) {
      FarCandles x = shifted(0, 0, 0);
      x.shift(0, 1, 40000, 40000);
      x.redness(0, 50);
      x.redness(1, 50);
      x.blind(hidden);
      D.due("both speak", x.boxes(3), 2);
      D.due("home 0 could", x.box(50), 1);
      D.due("home 0 could not", x.box(51), 0);
      D.due("a delay at 0", x.delay(0, 1000, 1000), 0);
      D.due("a delay at 40000", x.delay(1, MOST_DELAY, MOST_DELAY), 98000000000L);
      x.open();
      D.due("both speak still", x.boxes(3), 2);
    }
  }

  private static void boxesQuarrel() {
    D.said("Promise 25, 26: QUARREL");
    for (int what = 0; what < 4; what++) {
      D.due("boxes(" + what + ")", quarrel().boxes(what), QUARREL);
    }
    D.due("box(1)", quarrel().box(1), QUARREL);
    D.due("box(200)", quarrel().box(200), QUARREL);
    FarCandles x = quarrel();
    x.leave(0, true);
    D.due("ended", x.boxes(0), 200);
    D.due("ended", x.box(1), NONE);
  }

  private static void delays() {
    D.said("4: DELAYS: FAR is from u to v (1 .. 2000000000)");
    D.longEdges("u", 1, MOST_DELAY, OUTSIDE, u -> shifted(0, 0, 40000).delay(0, u, MOST_DELAY), u -> 0);
    D.longEdges("v", 1, MOST_DELAY, OUTSIDE, v -> shifted(0, 0, 40000).delay(0, 1, v), v -> v == 1 ? 999 : 0);
    for (long far : new long[] {1L << 32, 1L << 33, Long.MAX_VALUE, (1L << 32) + 5000, -1, -(1L << 32) + 5000, Long.MIN_VALUE}) {
      D.due("u " + far, shifted(0, 0, 40000).delay(0, far, MOST_DELAY), OUTSIDE);
      D.due("v " + far, shifted(0, 0, 40000).delay(0, 1, far), OUTSIDE);
      D.due("u and v " + far, shifted(0, 0, 40000).delay(0, far, far), OUTSIDE);
    }
  }

  private static void delayOfNoSpan() {
    D.said("Promise 27: OUTSIDE (.. v below u)");
    D.due("v is u", shifted(0, 0, 40000).delay(0, 5000, 5000), 0);
    D.due("v one below u", shifted(0, 0, 40000).delay(0, 5000, 4999), OUTSIDE);
    D.due("v is u at the least", shifted(0, 0, 0).delay(0, 1, 1), 999);
    D.due("v is u at the most", shifted(0, 0, 0).delay(0, MOST_DELAY, MOST_DELAY), 1999999000L);
    D.due("far below", shifted(0, 0, 40000).delay(0, MOST_DELAY, 1), OUTSIDE);
  }

  private static void apart() {
    D.said("4: APART is how far this lies from FAR at least of its lower END to FAR at most of its upper END; 0, if they meet");
    FarCandles x = shifted(0, 5150, 5250);
    // From 10470 to 11490.
    long[][] wants = {{1, 10469, 1}, {1, 10470, 0}, {10470, 10470, 0}, {1, 10471, 0}, {11000, 11001, 0}, {1, MOST_DELAY, 0},
      {11489, MOST_DELAY, 0}, {11490, 11490, 0}, {11490, MOST_DELAY, 0}, {11491, MOST_DELAY, 1}, {11491, 11491, 1}, {1, 1, 10469},
      {10468, 10469, 1}, {11492, 11500, 2}};
    for (long[] w : wants) {
      D.due("delay of " + w[0] + " to " + w[1], x.delay(0, w[0], w[1]), w[2]);
    }
    FarCandles y = shifted(0, 5000, 5000);
    D.due("one number, below", y.delay(0, 1, 9999), 1);
    D.due("one number, met", y.delay(0, 10000, 10000), 0);
    D.due("one number, above", y.delay(0, 10001, 10001), 1);
  }

  private static void apartAtItsMost() {
    D.said("4: APART, as far as can be");
    D.due("the farthest", shifted(9, 40000, 40000).delay(9, 1, 1), 99999999999L);
    D.due("the farthest", shifted(9, 40000, 40000).delay(9, 1, MOST_DELAY), 98000000000L);
    D.due("the nearest", shifted(9, 0, 0).delay(9, MOST_DELAY, MOST_DELAY), 1999999000L);
    D.due("all there is", shifted(9, 0, 40000).delay(9, 1, 999), 1);
  }

  private static long delayOf(String rules, int u, int v) {
    FarCandles x = Due.ruled(rules);
    x.shift(0, 2, u, v);
    return x.delay(2, 1, MOST_DELAY);
  }

  private static void delayNot() {
    D.said("Promise 27: NOT (ENDS are not within 0 to 40000, or it is LOOSE)");
    D.due("0 to 40000", delayOf("", 0, 40000), 0);
    D.due("-1 to 40000", delayOf("", -1, 40000), NOT);
    D.due("0 to 40001", delayOf("blur 0 by 1;", 1, 40000), NOT);
    D.due("0 to 40000, blurred by 1", delayOf("blur 0 by 1;", 1, 39999), 0);
    D.due("-1 to 1", delayOf("blur 0 by 1;", 0, 0), NOT);
    D.due("far below", delayOf("", -40000, -40000), NOT);
    D.due("loose", shifted(0, 0, 0).delay(1, 1, 1), NOT);
    D.due("none told", new FarCandles().delay(0, 1, 1), NOT);
    FarCandles x = shifted(0, 0, 0);
    x.leave(0, true);
    D.due("left out", x.delay(0, 1, 1), NOT);
    x.leave(0, false);
    D.due("in again", x.delay(0, 1, 1), 999);
  }
}
