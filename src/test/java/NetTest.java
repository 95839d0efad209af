/** Promises 16 to 23: ends, between, the widening, blame, odd, worth, lead, steps. */
public final class NetTest {
  private static final Due D = new Due();
  private static final int NONE = FarCandles.NONE, UNKNOWN = FarCandles.UNKNOWN, OUTSIDE = FarCandles.OUTSIDE;
  private static final int NOT = FarCandles.NOT, QUARREL = FarCandles.QUARREL, LOOSE = FarCandles.LOOSE;
  private static final int LARGE = FarCandles.LARGE;

  public static void main(String[] args) {
    ends();
    endsFarOut();
    asKnown();
    between();
    quarrelElsewhere();
    widening();
    blame();
    oddOnes();
    oddPairs();
    worth();
    lead();
    leadOfTwoWays();
    steps();
    D.end();
  }

  /** Home 0 by shift, home 1 by sort 0, home 2 by sort 1 of home 1; sort 1 is anchored. */
  private static FarCandles ladder() {
    FarCandles x = new FarCandles();
    x.shift(0, 0, 1000, 1100);
    x.light(1, 0, 0, 2000, 5, 0, 0);
    x.light(1, 0, 1, 3000, 5, 0, 0);
    x.light(2, 1, 1, 2500, 10, 0, 0);
    x.light(2, 1, 2, 4500, 10, 0, 0);
    return x;
  }

  private static void ends(FarCandles x, int home, int lower, int upper) {
    D.due("ends(" + home + ", NONE, 0)", x.ends(home, NONE, 0), lower);
    D.due("ends(" + home + ", NONE, 1)", x.ends(home, NONE, 1), upper);
  }

  private static void ends() {
    FarCandles x = ladder();
    ends(x, 0, 1000, 1100);
    ends(x, 1, 1990, 2110);
    ends(x, 2, 3970, 4130);
    ends(x, 3, LOOSE, LOOSE);
    D.due("no home", x.ends(10, NONE, 0), UNKNOWN);
    D.due("UNKNOWN is ahead", x.ends(-1, 99, 7), UNKNOWN);
    D.due("no end", x.ends(0, NONE, 2), OUTSIDE);
    D.due("no end", x.ends(0, NONE, -1), OUTSIDE);
    D.due("k below", x.ends(0, -2, 0), OUTSIDE);
    D.due("k above", x.ends(0, 6, 0), OUTSIDE);
    D.due("OUTSIDE is ahead of LOOSE", x.ends(3, 6, 0), OUTSIDE);
    x.shift(3, 2, 4000, 9000);
    ends(x, 2, 4000, 4130);
    ends(x, 0, 1000, 1100);
    x.shift(3, 2, -9000, 3975);
    ends(x, 2, QUARREL, QUARREL);
    ends(x, 0, QUARREL, QUARREL);
    ends(x, 3, QUARREL, QUARREL);
    D.due("OUTSIDE is ahead of QUARREL", x.ends(0, NONE, 2), OUTSIDE);
    FarCandles y = new FarCandles();
    y.shift(0, 0, 5, 9);
    y.shift(0, 0, 9, 12);
    ends(y, 0, 9, 9);
  }

  /** Laws at their bounds carry the ends farther out with each step. */
  private static void endsFarOut() {
    FarCandles x = new FarCandles();
    Due.read(x, "sort 0 time 9999 to 9999 colour 9999 to 9999;sort 1 time -9999 to -9999 colour -9999 to -9999;"
        + "sort 2 time 9999 to 9999 colour 9999 to 9999;sort 3 time -9999 to -9999 colour -9999 to -9999;");
    x.shift(0, 0, 0, 0);
    int[][] lights = {{0, 0, 30000, 0}, {0, 1, -5000, 3000}, {1, 1, 30000, 3000}, {1, 2, -5000, 0},
      {2, 2, 30000, 0}, {2, 3, -5000, 3000}, {3, 3, 30000, 3000}, {3, 4, -5000, 0}};
    for (int[] l : lights) {
      x.light(0, l[0], l[1], l[2], 0, l[3], l[3] == 0 ? 0 : 3000);
    }
    ends(x, 4, -4 * 94994, -4 * 94994);
    D.due("between", x.between(4, 0, 0), 4 * 94994);
    D.due("held together", x.widening(NONE), 0);
  }

  private static void asKnown() {
    FarCandles x = ladder();
    int[] lower1 = {LOOSE, LOOSE, LOOSE, 1990, 1990, 1990};
    for (int k = 0; k <= 5; k++) {
      D.due("home 1 as known by " + k, x.ends(1, k, 0), lower1[k]);
    }
    D.due("home 2 as known by 4", x.ends(2, 4, 1), LOOSE);
    D.due("home 2 as known by 5", x.ends(2, 5, 1), 4130);
    x.leave(1, true);
    D.due("what is left out is not known", x.ends(1, 3, 0), LOOSE);
    x.leave(1, false);
    x.shift(4, 0, 0, 10);
    D.due("they quarrel", x.ends(0, NONE, 0), QUARREL);
    D.due("they quarrel as known by 6", x.ends(0, 6, 0), QUARREL);
    D.due("they did not as known by 5", x.ends(0, 5, 0), 1000);
    x.undo();
    D.due("undone ones have their number still", x.ends(0, 6, 1), 1100);
  }

  private static void between() {
    FarCandles x = ladder();
    int[][] wants = {{0, 1, 990, 1010}, {1, 0, -1010, -990}, {1, 2, 1980, 2020}, {0, 2, 2970, 3030}, {2, 2, 0, 0},
      {3, 3, 0, 0}, {0, 3, LOOSE, LOOSE}, {3, 0, LOOSE, LOOSE}, {3, 4, LOOSE, LOOSE}};
    for (int[] w : wants) {
      D.due("between " + w[0] + " and " + w[1] + ", least", x.between(w[0], w[1], 0), w[2]);
      D.due("between " + w[0] + " and " + w[1] + ", greatest", x.between(w[0], w[1], 1), w[3]);
    }
    D.due("no home", x.between(10, 0, 0), UNKNOWN);
    D.due("no home", x.between(0, -1, 5), UNKNOWN);
    D.due("no end", x.between(0, 1, 2), OUTSIDE);
    D.due("no end", x.between(0, 3, -1), OUTSIDE);
    x.blind(77);
    D.due("nothing is put on it", x.between(0, 1, 0), 990);
    x.leave(0, true);
    D.due("no shift is needed", x.between(0, 2, 1), 3030);
    x.leave(0, false);
    x.shift(5, 1, 2100, 2105);
    D.due("shifts of both bind it", x.between(0, 1, 0), 1000);
    x.shift(5, 0, 0, 1);
    D.due("they quarrel", x.between(0, 1, 0), QUARREL);
    D.due("they quarrel", x.between(3, 3, 0), QUARREL);
    D.due("OUTSIDE is ahead of QUARREL", x.between(0, 1, 2), OUTSIDE);
  }

  /** A quarrel among homes and sorts that nothing ties to a shift is one all the same. */
  private static void quarrelElsewhere() {
    FarCandles x = new FarCandles();
    x.shift(0, 0, 5, 6);
    x.light(1, 3, 7, 100, 1, 0, 0);
    x.light(2, 3, 8, 200, 1, 0, 0);
    x.light(3, 4, 7, 100, 1, 0, 0);
    x.light(4, 4, 8, 204, 1, 0, 0);
    D.due("four misses hold it", x.ends(0, NONE, 0), 5);
    x.leave(4, true);
    x.light(4, 4, 8, 205, 1, 0, 0);
    D.due("one more does not", x.ends(0, NONE, 0), QUARREL);
    D.due("one more does not", x.count(4), NONE);
    D.due("one in four edges", x.widening(NONE), 1);
    D.due("each list of the ring", x.blame(), 2 + 4 + 8 + 16);
    D.due("the first of the ring", x.odd(0), 1);
    D.due("steps need no agreement", x.steps(0), 0);
    D.due("far needs no agreement", x.far(0, 0), 1000);
  }

  private static void widening() {
    FarCandles x = new FarCandles();
    D.due("k above", x.widening(1), OUTSIDE);
    D.due("k below", x.widening(-2), OUTSIDE);
    x.shift(0, 0, 0, 10);
    x.shift(1, 0, 11, 20);
    D.due("1 between two", x.widening(NONE), 1);
    D.due("as known by 1", x.widening(1), 0);
    D.due("as known by 2", x.widening(2), 1);
    x.shift(2, 0, 40000, 40000);
    x.shift(2, 0, -40000, -40000);
    D.due("the farthest shifts", x.widening(NONE), 40000);
    D.due("as known by 3", x.widening(3), 19995);
    D.due("the net is not widened by it", x.ends(0, NONE, 0), QUARREL);
    for (int gap = 1; gap <= 40000; gap += gap < 40 ? 1 : 333) {
      FarCandles z = new FarCandles();
      z.shift(0, 0, gap, gap);
      z.shift(0, 0, 0, 0);
      D.due("a gap of " + gap, z.widening(NONE), (gap + 1) / 2);
    }
    FarCandles y = new FarCandles();
    Due.read(y, "sort 0 time -9999 to -9999 colour -9999 to -9999;sort 1 time 9999 to 9999 colour 9999 to 9999; dust 99 to 99;");
    y.light(0, 0, 0, 30000, 0, 3000, 3000);
    y.light(0, 0, 1, -5000, 0, 0, 0);
    y.redden(1, 2000, 2000);
    y.light(0, 1, 1, 30000, 0, 0, 0);
    y.light(0, 1, 0, -5000, 0, 3000, 3000);
    // Round the ring: 30000 + 59994 + 24800 + 10200 + 5000 + 59994, over four.
    D.due("the most of all", y.widening(NONE), 47497);
    y.anchor(0, 0, 40000, 40000);
    y.anchor(0, 0, -40000, -40000);
    D.due("anchors do not need more", y.widening(NONE), 47497);
  }

  private static void blame() {
    FarCandles x = new FarCandles();
    D.due("no quarrel", x.blame(), NOT);
    x.shift(5, 0, 0, 10);
    x.shift(4, 0, 20, 30);
    D.due("either list", x.blame(), 32 + 16);
    x.shift(5, 0, 5, 9);
    D.due("all of a list go", x.blame(), 32 + 16);
    x.shift(0, 0, 40, 50);
    D.due("no list alone", x.blame(), 0);
    x.leave(1, true);
    D.due("what is left out has no part", x.blame(), 32 + 1);
    x.undo();
    D.due("no quarrel", x.blame(), NOT);
  }

  private static void odd(FarCandles x, int many, int first, int second) {
    D.due("odd: how many", x.odd(NONE), many);
    D.due("odd: first", x.odd(0), first);
    D.due("odd: second", x.odd(1), second);
    D.due("odd: third", x.odd(2), NONE);
    D.due("odd: none such", x.odd(-2), NONE);
    D.due("odd: none such", x.odd(Integer.MIN_VALUE), NONE);
    D.due("odd: none such", x.odd(Integer.MAX_VALUE), NONE);
  }

  private static void oddOnes() {
    FarCandles x = new FarCandles();
    D.due("no quarrel", x.odd(NONE), NOT);
    D.due("no quarrel", x.odd(5), NOT);
    x.shift(0, 0, 0, 10);
    x.shift(0, 0, 20, 30);
    odd(x, 1, 0, NONE);
    x.shift(0, 0, 5, 9);
    odd(x, 1, 1, NONE);
    x.leave(1, true);
    x.shift(0, 0, 50, 60);
    odd(x, 1, 3, NONE);
    x.undo();
    D.due("no quarrel", x.odd(0), NOT);
  }

  private static void oddPairs() {
    FarCandles x = new FarCandles();
    x.shift(0, 0, 5, 6);
    x.shift(0, 0, 5, 6);
    x.shift(0, 0, 15, 16);
    x.shift(0, 0, 15, 16);
    odd(x, 2, 0, 1);
    x.shift(0, 0, 5, 6);
    odd(x, 2, 2, 3);
    x.shift(0, 0, 15, 16);
    odd(x, NONE, NONE, NONE);
    FarCandles y = new FarCandles();
    y.shift(0, 3, 0, 1);
    y.shift(0, 3, 0, 1);
    y.shift(0, 3, 7, 8);
    y.shift(0, 5, 0, 1);
    y.shift(0, 5, 7, 8);
    odd(y, 2, 2, 3);
    FarCandles z = new FarCandles();
    z.shift(0, 5, 7, 8);
    z.shift(0, 3, 7, 8);
    z.shift(0, 3, 0, 1);
    z.shift(0, 5, 0, 1);
    odd(z, 2, 0, 1);
    z.leave(0, true);
    odd(z, 1, 1, NONE);
    for (int home = 0; home < 10; home += 9) {
      for (int near = 0; near <= 20; near += 20) {
        int[] places = {near, 20 - near, 20 - near, near};
        FarCandles v = new FarCandles();
        for (int place : places) {
          v.shift(0, home, place, place + 1);
        }
        odd(v, 2, 0, 3);
      }
    }
    // Two quarrels apart: the pairs are 1 or 2 with 0 or 3, in whatever order they are found.
    FarCandles w = new FarCandles();
    w.shift(0, 2, 0, 1);
    w.shift(0, 1, 0, 1);
    w.shift(0, 1, 7, 8);
    w.shift(0, 2, 7, 8);
    odd(w, 2, 0, 1);
    w.shift(0, 2, 0, 1);
    odd(w, 2, 1, 3);
    w.leave(4, true);
    w.shift(0, 1, 7, 8);
    odd(w, 2, 0, 1);
    w.shift(0, 2, 7, 8);
    odd(w, 2, 0, 1);
    w.leave(1, true);
    w.leave(0, true);
    w.leave(4, false);
    odd(w, 1, 4, NONE);
  }

  private static void worth() {
    FarCandles x = ladder();
    D.due("no list", x.worth(6, 0), UNKNOWN);
    D.due("no home", x.worth(0, 10), UNKNOWN);
    D.due("no list, no home", x.worth(-1, -1), UNKNOWN);
    D.due("loose as it stands", x.worth(0, 3), LOOSE);
    D.due("without it loose", x.worth(0, 2), LARGE);
    D.due("without it loose", x.worth(2, 2), LARGE);
    D.due("without it as well", x.worth(2, 1), 0);
    D.due("a list without tellings", x.worth(5, 1), 0);
    x.shift(3, 2, 4000, 4100);
    D.due("both ends", x.worth(3, 2), 60);
    D.due("the other way now", x.worth(0, 2), 0);
    D.due("the other way now", x.worth(0, 0), 60);
    x.blind(100);
    D.due("hidden does not count", x.worth(3, 2), 60);
    x.shift(4, 9, 0, 0);
    x.shift(5, 9, 1, 1);
    D.due("they quarrel", x.worth(4, 9), QUARREL);
    D.due("QUARREL is ahead of LOOSE", x.worth(4, 3), QUARREL);
    D.due("UNKNOWN is ahead of QUARREL", x.worth(4, 10), UNKNOWN);
  }

  private static void lead(FarCandles x, int home, int what, int... wants) {
    D.due("lead of " + home + ", " + what + ": how many", x.lead(home, what, NONE), wants.length);
    for (int i = 0; i < wants.length; i++) {
      D.due("lead of " + home + ", " + what + ": " + i, x.lead(home, what, i), wants[i]);
    }
    D.due("no more", x.lead(home, what, wants.length), NONE);
    D.due("none such", x.lead(home, what, -2), NONE);
    D.due("none such", x.lead(home, what, Integer.MAX_VALUE), NONE);
  }

  private static void lead() {
    FarCandles x = ladder();
    lead(x, 0, 0, 0);
    lead(x, 1, 1, 0, 1, 2);
    lead(x, 2, 0, 0, 1, 2, 3, 4);
    D.due("no home", x.lead(10, 0, 0), UNKNOWN);
    D.due("no home", x.lead(-1, 2, 0), UNKNOWN);
    D.due("no end", x.lead(0, 2, 0), OUTSIDE);
    D.due("no end", x.lead(3, -1, 0), OUTSIDE);
    D.due("loose", x.lead(3, 0, NONE), LOOSE);
    x.shift(3, 2, 4000, 9000);
    lead(x, 2, 0, 5);
    lead(x, 2, 1, 0, 1, 2, 3, 4);
    x.leave(5, true);
    lead(x, 2, 0, 0, 1, 2, 3, 4);
    x.leave(5, false);
    x.shift(3, 9, 0, 0);
    x.shift(3, 9, 1, 1);
    D.due("they quarrel", x.lead(0, 0, 0), QUARREL);
    D.due("QUARREL is ahead of LOOSE", x.lead(3, 0, 0), QUARREL);
    D.due("OUTSIDE is ahead of QUARREL", x.lead(0, 2, 0), OUTSIDE);
  }

  /** An end that two tellings give alike rests on neither. */
  private static void leadOfTwoWays() {
    FarCandles x = new FarCandles();
    x.shift(0, 0, 10, 30);
    x.shift(1, 0, 10, 20);
    lead(x, 0, 0);
    lead(x, 0, 1, 1);
    x.shift(2, 0, 5, 20);
    lead(x, 0, 1);
    x.light(0, 0, 0, 100, 0, 0, 0);
    x.light(0, 0, 1, 200, 0, 0, 0);
    lead(x, 1, 0, 3, 4);
  }

  private static void steps() {
    FarCandles x = ladder();
    int[] wants = {0, 2, 4, NONE};
    for (int home = 0; home < wants.length; home++) {
      D.due("steps(" + home + ")", x.steps(home), wants[home]);
    }
    D.due("no home", x.steps(10), UNKNOWN);
    D.due("no home", x.steps(-1), UNKNOWN);
    x.light(0, 1, 0, 0, 0, 0, 0);
    D.due("a shorter way", x.steps(2), 2);
    x.undo();
    D.due("undone", x.steps(2), 4);
    x.leave(0, true);
    D.due("no shift", x.steps(0), NONE);
    x.anchor(0, 0, 0, 0);
    D.due("an anchor is no shift", x.steps(0), NONE);
    x.leave(0, false);
    x.shift(0, 2, 0, 1);
    D.due("its own shift", x.steps(2), 0);
    D.due("in a quarrel too", x.ends(2, NONE, 0), QUARREL);
    D.due("in a quarrel too", x.steps(1), 2);
    FarCandles y = new FarCandles();
    y.shift(0, 9, 0, 1);
    for (int step = 0; step < 5; step++) {
      y.light(0, step, 9 - step, 0, 0, 0, 0);
      y.light(0, step, 8 - step, 0, 0, 0, 0);
    }
    D.due("a long way", y.steps(4), 10);
    D.due("no further", y.steps(3), NONE);
    y.light(0, 5, 4, 0, 0, 0, 0);
    D.due("one light is no step", y.steps(3), NONE);
    y.leave(0, true);
    D.due("no home has a shift", y.steps(9), NONE);
    y.leave(0, false);
    y.light(0, 5, 3, 0, 0, 0, 0);
    D.due("the longest way", y.steps(3), 12);
    FarCandles z = new FarCandles();
    z.light(0, 5, 0, 0, 0, 0, 0);
    z.light(0, 5, 9, 0, 0, 0, 0);
    z.shift(0, 9, 0, 0);
    D.due("from the last home to the first", z.steps(0), 2);
    D.due("no light there", z.steps(1), NONE);
  }
}
