/** Part 6 and promises 28 to 30: each sentence that names a bound, at that bound. */
public final class EdgesOfHiddenTest {
  private static final Due D = new Due();
  private static final int NONE = FarCandles.NONE, UNKNOWN = FarCandles.UNKNOWN, OUTSIDE = FarCandles.OUTSIDE;
  private static final int NOT = FarCandles.NOT, QUARREL = FarCandles.QUARREL, LOOSE = FarCandles.LOOSE;
  private static final int OPEN = 0, HELD = 1, BROKEN = 2;

  public static void main(String[] args) {
    hidden();
    putOnEnds();
    tillOpened();
    putOnceOnly();
    noneIsOn();
    toldAsARefusal();
    onNothingElse();
    above();
    below();
    ofOneNumber();
    claimsAtTheirBounds();
    byRealEnds();
    openIfLoose();
    claimQuarrels();
    whichClaim();
    claimOfTheRules();
    D.end();
  }

  private static FarCandles shifted(int u, int v) {
    FarCandles x = new FarCandles();
    x.shift(0, 0, u, v);
    return x;
  }

  private static void hidden() {
    D.said("6: HIDDEN is a number (-999 .. 999; 0 at first)");
    D.edges("blind", -999, 999, OUTSIDE, n -> new FarCandles().blind(n), n -> 1);
    D.edges("blind and open", -999, 999, NOT, n -> opened(n), n -> n);
    D.due("0 at first", shifted(5, 6).ends(0, NONE, 0), 5);
  }

  private static long opened(int n) {
    FarCandles x = new FarCandles();
    x.blind(n);
    return x.open();
  }

  private static void putOnEnds() {
    D.said("6: that is put on ENDS");
    for (int n : new int[] {-999, -1, 0, 1, 999}) {
      FarCandles x = shifted(-40000, 40000);
      x.blind(n);
      D.due("lower", x.ends(0, NONE, 0), -40000 + n);
      D.due("upper", x.ends(0, NONE, 1), 40000 + n);
      D.due("as known by 1", x.ends(0, 1, 0), -40000 + n);
      D.due("as known by 0: on no LOOSE", x.ends(0, 0, 0), LOOSE);
    }
  }

  private static void tillOpened() {
    D.said("6: till it is OPENED; promise 29: HIDDEN is OPENED (ENDS are real from now on): it");
    for (int n : new int[] {-999, -1, 0, 1, 999}) {
      FarCandles x = shifted(10, 20);
      x.blind(n);
      D.due("on", x.count(7), 1);
      D.due("open", x.open(), n);
      D.due("off", x.count(7), 0);
      D.due("real", x.ends(0, NONE, 0), 10);
      D.due("real", x.ends(0, 1, 1), 20);
    }
  }

  private static void putOnceOnly() {
    D.said("6: put once only; promise 28: NOT: one was put already (be it OPENED or not)");
    for (int n : new int[] {-999, 0, 999}) {
      FarCandles x = shifted(10, 20);
      D.due("put", x.blind(n), 1);
      D.due("once more", x.blind(5), NOT);
      D.due("the same once more", x.blind(n), NOT);
      D.due("the first one is on", x.ends(0, NONE, 0), 10 + n);
      D.due("the first one is opened", x.open(), n);
      D.due("once more behind that", x.blind(5), NOT);
      D.due("none is on", x.count(7), 0);
      D.due("real", x.ends(0, NONE, 0), 10);
    }
    FarCandles y = new FarCandles();
    D.due("one that is refused is not put", y.blind(1000), OUTSIDE);
    D.due("none is on", y.count(7), 0);
    D.due("put", y.blind(7), 1);
  }

  private static void noneIsOn() {
    D.said("Promise 29: NOT: none is on");
    FarCandles x = new FarCandles();
    D.due("none was put", x.open(), NOT);
    D.due("it may be put still", x.blind(3), 1);
    D.due("it is opened", x.open(), 3);
    D.due("it is opened already", x.open(), NOT);
    D.due("it is opened already", x.open(), NOT);
  }

  private static void toldAsARefusal() {
    D.said("Promise 16: (With HIDDEN on it what is told may be as a refusal is.)");
    FarCandles x = shifted(-5, 998);
    x.blind(4);
    D.due("an end as NONE is", x.ends(0, NONE, 0), -1);
    FarCandles y = shifted(998, 998);
    y.blind(-999);
    D.due("an end as NONE is", y.ends(0, NONE, 1), -1);
    D.due("a real end as NONE is", shifted(-1, -1).ends(0, NONE, 0), -1);
    int[] refusals = {FarCandles.UNKNOWN, FarCandles.OUTSIDE, FarCandles.NOT, FarCandles.FULL,
      FarCandles.QUARREL, FarCandles.LOOSE, FarCandles.LARGE};
    for (int refusal : refusals) {
      for (int n = -999; n <= 999; n += 999) {
        endAsRefusal(refusal, n);
      }
    }
  }

  /** Six of the widest steps lead so far out that an end is as a refusal: it is an end all the same. */
  private static void endAsRefusal(int refusal, int n) {
    String of = " of an end as " + refusal + " by " + n;
    // A step of brightness 25000 to -5000 is 5000 less than the widest one, which is 176786.
    FarCandles x = Due.widestWay(refusal - n + 6 * 171786, 25000, -5000);
    D.due("blind" + of, x.blind(n), 1);
    D.due("ends" + of, x.ends(6, NONE, 0), refusal);
    D.due("homes that are loose" + of, x.count(4), 3);
    D.due("lead" + of, x.lead(6, 0, NONE), 13);
    D.due("worth" + of, x.worth(0, 6), FarCandles.LARGE);
    D.due("worth of another list" + of, x.worth(1, 6), 0);
    D.due("delay" + of, x.delay(6, 1, 1), NOT);
    D.due("open" + of, x.open(), n);
    D.due("real end" + of, x.ends(6, NONE, 0), refusal - n);
  }

  private static void onNothingElse() {
    D.said("6: put on ENDS (and on nothing else)");
    FarCandles x = shifted(10, 20);
    x.light(1, 0, 0, 100, 0, 0, 0);
    x.light(1, 0, 1, 200, 0, 0, 0);
    x.shift(2, 0, 12, 25);
    x.blind(999);
    D.due("told low", x.told(0, 5), 10);
    D.due("between", x.between(0, 1, 0), 100);
    D.due("worth", x.worth(2, 0), 2);
    D.due("lead", x.lead(0, 0, 0), 3);
    D.due("widening", x.widening(NONE), 0);
    D.due("far", x.far(0, 0), 1000);
    D.due("delay", x.delay(0, 1, 999), 1);
    D.due("steps", x.steps(1), 2);
  }

  private static int stand(int u, int v, String text) {
    FarCandles x = shifted(u, v);
    D.due("read " + text, Due.read(x, text), 1);
    return x.claim(0, 0);
  }

  private static void above() {
    D.said("6: above: HELD, if the lower END is above M; BROKEN, if the upper END is M or less; else OPEN");
    D.due("lower END is M and 1", stand(11, 20, "claim 0 above 10;"), HELD);
    D.due("lower END is M", stand(10, 20, "claim 0 above 10;"), OPEN);
    D.due("upper END is M and 1", stand(0, 11, "claim 0 above 10;"), OPEN);
    D.due("upper END is M", stand(0, 10, "claim 0 above 10;"), BROKEN);
    D.due("upper END is below M", stand(0, 9, "claim 0 above 10;"), BROKEN);
  }

  private static void below() {
    D.said("6: (below: the upper END below); BROKEN, if (the lower END M or more); else OPEN");
    D.due("upper END is one below M", stand(0, 9, "claim 0 below 10;"), HELD);
    D.due("upper END is M", stand(0, 10, "claim 0 below 10;"), OPEN);
    D.due("lower END is one below M", stand(9, 20, "claim 0 below 10;"), OPEN);
    D.due("lower END is M", stand(10, 20, "claim 0 below 10;"), BROKEN);
    D.due("lower END is above M", stand(11, 20, "claim 0 below 10;"), BROKEN);
  }

  private static void ofOneNumber() {
    D.said("6: HELD, BROKEN, OPEN of ENDS that are one number");
    int[][] wants = {{9, BROKEN, HELD}, {10, BROKEN, BROKEN}, {11, HELD, BROKEN}};
    for (int[] w : wants) {
      D.due("above 10, at " + w[0], stand(w[0], w[0], "claim 0 above 10;"), w[1]);
      D.due("below 10, at " + w[0], stand(w[0], w[0], "claim 0 below 10;"), w[2]);
    }
  }

  private static void claimsAtTheirBounds() {
    D.said("2 and 6: M -40000 .. 40000, at the ends of what a SHIFT can tell");
    D.due("above the least", stand(-40000, -40000, "claim 0 above -40000;"), BROKEN);
    D.due("above the least", stand(-39999, 40000, "claim 0 above -40000;"), HELD);
    D.due("above the least", stand(-40000, 40000, "claim 0 above -40000;"), OPEN);
    D.due("above the greatest", stand(-40000, 40000, "claim 0 above 40000;"), BROKEN);
    D.due("below the greatest", stand(40000, 40000, "claim 0 below 40000;"), BROKEN);
    D.due("below the greatest", stand(-40000, 39999, "claim 0 below 40000;"), HELD);
    D.due("below the greatest", stand(-40000, 40000, "claim 0 below 40000;"), OPEN);
    D.due("below the least", stand(-40000, 40000, "claim 0 below -40000;"), BROKEN);
    D.due("above -0", stand(0, 1, "claim 0 above -0;"), OPEN);
  }

  private static void byRealEnds() {
    D.said("6: by real ENDS");
    for (int hidden : new int[] {-999, 0, 999}) {
      FarCandles x = shifted(10, 20);
      Due.read(x, "claim 0 above 9;claim 0 above 10;claim 0 above 20;claim 0 below 21;claim 0 below 20;claim 0 below 10;");
      x.blind(hidden);
      int[] wants = {HELD, OPEN, BROKEN, HELD, OPEN, BROKEN};
      for (int i = 0; i < wants.length; i++) {
        D.due("claim " + i + " under " + hidden, x.claim(i, 0), wants[i]);
      }
      x.open();
      for (int i = 0; i < wants.length; i++) {
        D.due("claim " + i + " behind " + hidden, x.claim(i, 0), wants[i]);
      }
    }
  }

  private static void openIfLoose() {
    D.said("6: OPEN, if it is LOOSE");
    for (String text : new String[] {"claim 9 above -40000;", "claim 9 below 40000;", "claim 9 above 40000;", "claim 9 below -40000;"}) {
      D.due(text, stand(0, 0, text), OPEN);
      D.due(text + " with none told", Due.ruled(text).claim(0, 0), OPEN);
    }
    FarCandles x = shifted(11, 12);
    Due.read(x, "claim 0 above 10;");
    D.due("tied", x.claim(0, 0), HELD);
    x.leave(0, true);
    D.due("loose", x.claim(0, 0), OPEN);
    x.leave(0, false);
    x.undo();
    D.due("undone", x.claim(0, 0), OPEN);
    x.redo();
    D.due("put back", x.claim(0, 0), HELD);
  }

  private static void claimQuarrels() {
    D.said("Promise 30: QUARREL (of 0)");
    FarCandles x = shifted(0, 0);
    x.shift(0, 0, 1, 1);
    Due.read(x, "claim 0 above -5;claim 9 below 5;");
    int[][] wants = {{QUARREL, 0, -5, 1}, {QUARREL, 9, 5, 0}};
    for (int i = 0; i < wants.length; i++) {
      for (int what = 0; what < 4; what++) {
        D.due("claim(" + i + ", " + what + ")", x.claim(i, what), wants[i][what]);
      }
    }
    x.undo();
    D.due("ended", x.claim(0, 0), HELD);
  }

  private static void whichClaim() {
    D.said("Promise 30: what = 0 .. 3. UNKNOWN, OUTSIDE");
    int[] wants = {OPEN, 4, -6, 0};
    D.edges("claim's what", 0, 3, OUTSIDE, n -> Due.ruled("claim 4 below -6;").claim(0, n), n -> wants[n]);
    D.edges("claim of one", 0, 0, UNKNOWN, n -> Due.ruled("claim 4 below -6;").claim(n, 1), n -> 4);
    D.edges("claim of eight", 0, 7, UNKNOWN, n -> Due.ruled("claim4below6;".repeat(8)).claim(n, 1), n -> 4);
    for (int i : new int[] {NONE, 0, 1, 8}) {
      for (int what = 0; what < 4; what++) {
        D.due("claim of none", new FarCandles().claim(i, what), UNKNOWN);
      }
    }
  }

  private static void claimOfTheRules() {
    D.said("Promise 13, 30: CLAIMS are those of THE RULES");
    FarCandles x = Due.ruled("claim4below6;".repeat(8));
    Due.feed(x, "claim 5 above 7;");
    D.due("fed, not read", x.claim(0, 1), 4);
    D.due("read", x.read(), 1);
    D.due("the new one", x.claim(0, 1), 5);
    D.due("the old ones are gone", x.claim(1, 1), UNKNOWN);
    D.due("a fault", Due.read(x, "claim 1 above 1;claim"), -11);
    D.due("as it was", x.claim(0, 1), 5);
    D.due("as it was", x.claim(1, 1), UNKNOWN);
    D.due("none", x.read(), 0);
    D.due("gone too", x.claim(0, 1), UNKNOWN);
  }
}
