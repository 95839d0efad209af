/** Parts 3 and 5 and promises 16 to 23: each sentence that names a bound, at that bound. */
public final class EdgesOfNetTest {
  private static final Due D = new Due();
  private static final int NONE = FarCandles.NONE, OUTSIDE = FarCandles.OUTSIDE, NOT = FarCandles.NOT;
  private static final int QUARREL = FarCandles.QUARREL, LOOSE = FarCandles.LOOSE, LARGE = FarCandles.LARGE;

  public static void main(String[] args) {
    whatIsInTheNet();
    touchingSpans();
    ringsWithoutShift();
    eightyInOneNet();
    greatestAndLeast();
    farthestEnds();
    loose();
    between();
    betweenAHomeAndItself();
    asKnown();
    asKnownOfNone();
    widening();
    wideningOfRings();
    wideningAtItsMost();
    blameIsASet();
    blameOfNone();
    blameAlone();
    oddOne();
    oddTwo();
    oddMoreThanTwo();
    oddFirstOfLikeOnes();
    oddOfAllSmallNets();
    oddNoSuch();
    worth();
    worthLarge();
    worthLoose();
    lead();
    leadOfNone();
    leadAtItsMost();
    leadOrLoose();
    whichEnd();
    steps();
    stepsNone();
    stepsOfTheNetAlone();
    D.end();
  }

  private static FarCandles shifts(int... ends) {
    FarCandles x = new FarCandles();
    for (int n = 0; n + 1 < ends.length; n += 2) {
      x.shift(n / 2 % 6, 0, ends[n], ends[n + 1]);
    }
    return x;
  }

  private static void ends(String when, FarCandles x, int home, int lower, int upper) {
    D.due(when + ": lower end of " + home, x.ends(home, NONE, 0), lower);
    D.due(when + ": upper end of " + home, x.ends(home, NONE, 1), upper);
  }

  private static void whatIsInTheNet() {
    D.said("3: THE NET: all TELLINGS that are known, not UNDONE, and not left out");
    FarCandles x = shifts(0, 100, 10, 90, 20, 80);
    ends("all", x, 0, 20, 80);
    x.leave(2, true);
    ends("the last left out", x, 0, 10, 90);
    x.undo();
    x.leave(2, false);
    ends("the last undone", x, 0, 10, 90);
    x.undo();
    ends("two undone", x, 0, 0, 100);
    x.leave(0, true);
    ends("none in it", x, 0, LOOSE, LOOSE);
    D.due("none in it", x.count(1), 0);
    x.redo();
    ends("one in it", x, 0, 10, 90);
    x.redo();
    x.leave(0, false);
    ends("all again", x, 0, 20, 80);
  }

  private static void touchingSpans() {
    D.said("3: They QUARREL, if no row of ZEROS and FARNESSES is as all of them tell.");
    ends("spans that touch", shifts(0, 10, 10, 20), 0, 10, 10);
    ends("spans that touch", shifts(10, 20, 0, 10), 0, 10, 10);
    ends("a gap of one", shifts(0, 10, 11, 20), 0, QUARREL, QUARREL);
    ends("a gap of one", shifts(11, 20, 0, 10), 0, QUARREL, QUARREL);
    ends("at the bounds", shifts(-40000, -40000, -40000, 40000), 0, -40000, -40000);
    ends("at the bounds", shifts(-40000, 40000, 40000, 40000), 0, 40000, 40000);
    ends("from bound to bound", shifts(-40000, -40000, 40000, 40000), 0, QUARREL, QUARREL);
    FarCandles x = new FarCandles();
    x.anchor(0, 3, 0, 10);
    x.anchor(0, 3, 11, 20);
    ends("anchors with a gap", x, 7, QUARREL, QUARREL);
    FarCandles y = new FarCandles();
    y.anchor(0, 3, 0, 10);
    y.anchor(0, 3, 10, 20);
    y.light(0, 3, 7, 0, 0, 0, 0);
    ends("anchors that touch", y, 7, -10, -10);
  }

  /** Two homes with lights of two sorts each, whose differences are 100 and 100 + more. */
  private static FarCandles ring(int more) {
    FarCandles x = new FarCandles();
    x.light(0, 0, 0, 500, 0, 0, 0);
    x.light(1, 0, 1, 600, 0, 0, 0);
    x.light(2, 1, 0, 500, 0, 0, 0);
    x.light(3, 1, 1, 600 + more, 0, 0, 0);
    return x;
  }

  private static void ringsWithoutShift() {
    D.said("3: They QUARREL .. though nothing ties them");
    D.due("no quarrel", ring(0).between(0, 1, 0), 100);
    ends("one more", ring(1), 0, QUARREL, QUARREL);
    ends("one less", ring(-1), 9, QUARREL, QUARREL);
    D.due("count of the loose", ring(0).count(4), 10);
    D.due("count of the loose", ring(1).count(4), -1);
    FarCandles x = new FarCandles();
    x.light(0, 5, 9, 10, 5, 0, 0);
    x.light(0, 5, 9, 20, 5, 0, 0);
    ends("one sort, one home: they touch", x, 9, LOOSE, LOOSE);
    x.light(0, 5, 9, 26, 5, 0, 0);
    ends("one sort, one home: a gap", x, 9, QUARREL, QUARREL);
  }

  private static void eightyInOneNet() {
    D.said("3: THE NET, of all that can be told");
    FarCandles x = new FarCandles();
    for (int i = 0; i < 80; i++) {
      x.shift(i % 6, 9, -i, 1000 - i);
    }
    ends("eighty", x, 9, 0, 921);
    D.due("the last ends it", x.lead(9, 1, 0), 79);
    D.due("the first begins it", x.lead(9, 0, 0), 0);
    D.due("as known by 79", x.ends(9, 79, 1), 922);
    D.due("as known by 80", x.ends(9, 80, 1), 921);
    D.due("widening", x.widening(80), 0);
    x.leave(79, true);
    ends("without the last", x, 9, 0, 922);
  }

  private static void greatestAndLeast() {
    D.said("3: ENDS of a HOME: the greatest number that its FARNESS is never below, the least that it is never above");
    ends("one span", shifts(-3, 8), 0, -3, 8);
    ends("one number", shifts(7, 7), 0, 7, 7);
    ends("the widest", shifts(-40000, 40000), 0, -40000, 40000);
    ends("the narrower of two", shifts(-3, 8, -2, 9), 0, -2, 8);
    FarCandles x = shifts(100, 110);
    x.light(0, 2, 0, 50, 1, 0, 0);
    x.light(0, 2, 5, 60, 2, 0, 0);
    ends("by two lights", x, 5, 107, 123);
    x.shift(0, 5, 123, 130);
    ends("both by the farther one", x, 5, 123, 123);
    ends("both by the farther one", x, 0, 110, 110);
    x.undo();
    x.anchor(0, 2, -60, -59);
    ends("by the zero too", x, 5, 117, 122);
    ends("by the zero too", x, 0, 108, 110);
  }

  /** Six sorts lead from home 0 to home 6, each step as far down as lights can tell. */
  private static FarCandles longestWay() {
    StringBuilder text = new StringBuilder();
    for (int sort = 0; sort < 6; sort++) {
      text.append("sort").append(sort).append("time9999to9999colour9999to9999;");
    }
    FarCandles x = Due.ruled(text + "blur0by999;");
    x.shift(0, 0, -40000, -40000);
    for (int sort = 0; sort < 6; sort++) {
      x.light(0, sort, sort, 30000, 999, 0, 0);
      x.light(0, sort, sort + 1, -5000, 999, 3000, 3000);
    }
    return x;
  }

  private static void farthestEnds() {
    D.said("3: ENDS, as far out as they can be");
    FarCandles x = longestWay();
    // A step is 64994 and 30000 down, give or take twice 999 and 999; the shift is blurred by 999.
    ends("six steps", x, 6, -40000 - 6 * 94994 - 6 * 3996 - 999, -40000 - 6 * 94994 + 6 * 3996 + 999);
    ends("one step", x, 1, -40000 - 94994 - 3996 - 999, -40000 - 94994 + 3996 + 999);
    D.due("between, least", x.between(6, 0, 0), 6 * 94994 - 6 * 3996);
    D.due("between, greatest", x.between(6, 0, 1), 6 * 94994 + 6 * 3996);
    x.redden(6, 0, 2000);
    ends("with dust", x, 6, -40000 - 6 * 94994 - 6 * 3996 - 999 - 6200, -40000 - 6 * 94994 + 6 * 3996 + 999);
    x.blind(-999);
    D.due("with HIDDEN", x.ends(6, NONE, 0), -40000 - 6 * 94994 - 6 * 3996 - 999 - 6200 - 999);
    // Down: from a high of 30000 and 999 and 59994 to a low of -5000 less 999, 59994 and 19800 of dust.
    FarCandles down = Due.widestWay(-40000, 30000, -5000);
    // Up: from a low of -5000 less 999, 59994 and 19800 to a high of 30000 and 999 and 59994.
    FarCandles up = Due.widestWay(40000, -5000, 30000);
    for (int home = 0; home <= 6; home++) {
      D.due("lower end by " + home + " widest steps down", down.ends(home, NONE, 0), -40000 - home * 176786);
      D.due("upper end by " + home + " widest steps up", up.ends(home, NONE, 1), 40000 + home * 176786);
      D.due("between, least", down.between(0, home, 0), -home * 176786);
      D.due("between, greatest", up.between(0, home, 1), home * 176786);
    }
    // The other end of a step down: a high of -5000 and 60993 less a low of 30000 less 80793.
    D.due("upper end by six widest steps down", down.ends(6, NONE, 1), -40000 + 6 * 106786);
    down.blind(-999);
    D.due("with HIDDEN", down.ends(6, NONE, 0), -40000 - 6 * 176786 - 999);
  }

  private static void loose() {
    D.said("3: LOOSE, if there are none (nothing ties it)");
    FarCandles x = new FarCandles();
    x.light(0, 0, 3, 500, 0, 0, 0);
    ends("a light alone", x, 3, LOOSE, LOOSE);
    x.light(0, 0, 4, 600, 0, 0, 0);
    ends("two lights", x, 4, LOOSE, LOOSE);
    x.anchor(0, 1, 0, 0);
    ends("another sort's anchor", x, 4, LOOSE, LOOSE);
    x.shift(0, 5, 0, 0);
    ends("another home's shift", x, 4, LOOSE, LOOSE);
    x.anchor(0, 0, 10, 11);
    ends("its sort's anchor", x, 4, 589, 590);
    ends("its sort's anchor", x, 3, 489, 490);
    D.due("how many are loose", x.count(4), 7);
    x.undo();
    x.shift(0, 3, 0, 1);
    ends("its neighbour's shift", x, 4, 100, 101);
  }

  private static void between() {
    D.said("3: BETWEEN two HOMES: likewise of FARNESS of the latter less that of the former (nothing is put on it)");
    FarCandles x = ring(0);
    D.due("least", x.between(0, 1, 0), 100);
    D.due("greatest", x.between(0, 1, 1), 100);
    D.due("the other way", x.between(1, 0, 0), -100);
    D.due("nothing ties them", x.between(0, 2, 0), LOOSE);
    D.due("nothing ties them", x.between(2, 0, 1), LOOSE);
    x.shift(0, 0, 0, 0);
    D.due("one of them tied is not both", x.between(0, 2, 0), LOOSE);
    x.shift(0, 2, 7, 9);
    D.due("both have a shift", x.between(0, 2, 0), 7);
    D.due("both have a shift", x.between(0, 2, 1), 9);
    D.due("both are tied", x.between(1, 2, 0), -93);
    x.blind(999);
    D.due("nothing is put on it", x.between(0, 2, 1), 9);
    D.due("though it is on the ends", x.ends(0, NONE, 0), 999);
    D.edges("between's what", 0, 1, OUTSIDE, n -> shifts(0, 5).between(0, 0, n), n -> 0);
    FarCandles far = new FarCandles();
    far.shift(0, 0, -40000, 40000);
    far.shift(0, 9, -40000, 40000);
    D.due("the least of all shifts", far.between(0, 9, 0), -80000);
    D.due("the greatest of all shifts", far.between(0, 9, 1), 80000);
  }

  private static void betweenAHomeAndItself() {
    D.said("3: BETWEEN two HOMES that are one: its FARNESS less itself");
    for (int home = 0; home < 10; home++) {
      D.due("tied or loose, least", shifts(0, 5).between(home, home, 0), 0);
      D.due("tied or loose, greatest", shifts(0, 5).between(home, home, 1), 0);
      D.due("in a quarrel", shifts(0, 5, 6, 7).between(home, home, 0), QUARREL);
    }
  }

  private static void asKnown() {
    D.said("3: AS KNOWN by k: the first k TELLINGS (NONE: all); promise 16: OUTSIDE (k NONE, 0 .. TELLINGS)");
    int[] lower = {30, LOOSE, 10, 20, 30};
    D.edges("k of three", NONE, 3, OUTSIDE, k -> shifts(10, 50, 20, 50, 30, 50).ends(0, k, 0), k -> lower[k + 1]);
    for (int k = NONE; k <= 3; k++) {
      D.due("k " + k, shifts(10, 50, 20, 50, 30, 50).ends(0, k, 0), lower[k + 1]);
    }
    FarCandles x = shifts(10, 50, 20, 50, 30, 50);
    x.undo();
    D.due("undone ones count as told", x.ends(0, 3, 0), 20);
    D.due("no fourth", x.ends(0, 4, 0), OUTSIDE);
    x.leave(0, true);
    D.due("left out ones count as told", x.ends(0, 1, 0), LOOSE);
    D.due("left out ones count as told", x.ends(0, 2, 0), 20);
    FarCandles y = shifts(0, 10, 20, 30, 0, 40);
    D.due("they quarrel", y.ends(0, NONE, 0), QUARREL);
    D.due("they quarrel by 2", y.ends(0, 2, 0), QUARREL);
    D.due("they did not by 1", y.ends(0, 1, 1), 10);
    D.due("nor by 0", y.ends(0, 0, 1), LOOSE);
  }

  private static void asKnownOfNone() {
    D.said("Promise 16, 18: OUTSIDE (k .. 0 .. TELLINGS), with none told and with all");
    D.edges("ends' k of none", NONE, 0, OUTSIDE, k -> new FarCandles().ends(0, k, 0), k -> LOOSE);
    D.edges("widening's k of none", NONE, 0, OUTSIDE, k -> new FarCandles().widening(k), k -> 0);
    D.edges("ends' k of eighty", NONE, 80, OUTSIDE, k -> shifts(new int[160]).ends(0, k, 0), k -> 0);
    D.edges("widening's k of eighty", NONE, 80, OUTSIDE, k -> shifts(new int[160]).widening(k), k -> 0);
  }

  private static void widening() {
    D.said("3: THE WIDENING is the least w (0 and up) with which they do not QUARREL");
    for (int gap = -2; gap <= 7; gap++) {
      D.due("a gap of " + gap, shifts(0, 10, 10 + gap, 20).widening(NONE), Math.max(0, (gap + 1) / 2));
    }
    D.due("one telling", shifts(5, 5).widening(NONE), 0);
    D.due("the widest gap of three", shifts(0, 10, 13, 20, 30, 40).widening(NONE), 10);
    int[] known = {3, 0, 0, 3};
    D.edges("widening's k", NONE, 2, OUTSIDE, k -> shifts(0, 10, 15, 20).widening(k), k -> known[k + 1]);
    D.due("by one", shifts(0, 10, 15, 20).widening(1), 0);
    FarCandles x = shifts(0, 10, 15, 20);
    x.leave(0, true);
    D.due("one left out", x.widening(NONE), 0);
    x.leave(0, false);
    D.due("in again", x.widening(NONE), 3);
    ends("they quarrel all the same", x, 0, QUARREL, QUARREL);
    D.due("blur widens too", wideningBlurred("blur 0 by 2;"), 2);
    D.due("blur widens too", wideningBlurred("blur 0 by 2;blur 1 by 3;"), 0);
  }

  private static int wideningBlurred(String text) {
    FarCandles x = shifts(0, 10, 15, 20);
    Due.read(x, text);
    return x.widening(NONE);
  }

  private static void wideningOfRings() {
    D.said("3: WIDENED by w, all lows are less by w, all highs more");
    for (int more = 0; more <= 9; more++) {
      D.due("four lights share " + more, ring(more).widening(NONE), (more + 3) / 4);
      D.due("four lights share -" + more, ring(-more).widening(NONE), (more + 3) / 4);
    }
    FarCandles x = new FarCandles();
    x.shift(0, 0, 0, 0);
    x.light(0, 0, 0, 0, 0, 0, 0);
    x.anchor(0, 0, 7, 7);
    D.due("three share 7", x.widening(NONE), 3);
  }

  private static void wideningAtItsMost() {
    D.said("3: THE WIDENING, as great as it can be");
    D.due("from bound to bound", shifts(-40000, -40000, 40000, 40000).widening(NONE), 40000);
    D.due("from bound to bound", shifts(40000, 40000, -40000, -40000).widening(NONE), 40000);
    FarCandles x = Due.ruled("sort 0 time -9999 to -9999 colour -9999 to -9999;");
    x.light(0, 0, 0, 30000, 0, 3000, 3000);
    x.light(0, 0, 0, -5000, 0, 0, -500);
    // 89994 above; -5000 less 4999.5, told as -10000 to -9999; half of what lies between.
    D.due("two lights of one sort", x.widening(NONE), 49997);
    x.light(0, 0, 0, -5000, 0, 0, 0);
    D.due("a third between them", x.widening(NONE), 49997);
    FarCandles y = Due.ruled("sort 0 time -9999 to -9999 colour -9999 to -9999;");
    y.shift(0, 0, -40000, -40000);
    y.anchor(0, 0, -40000, -40000);
    y.light(0, 0, 0, 30000, 0, 3000, 3000);
    // 89994 against -80000, shared by three.
    D.due("a shift, an anchor and a light", y.widening(NONE), 56665);
    FarCandles z = Due.ruled("sort 0 time 9999 to 9999 colour 9999 to 9999;dust 99 to 99;");
    z.redden(0, 2000, 2000);
    z.shift(0, 0, 40000, 40000);
    z.anchor(0, 0, 40000, 40000);
    z.light(0, 0, 0, -5000, 0, 3000, 3000);
    // 80000 against -84794.
    D.due("the other way round", z.widening(NONE), 54932);
    FarCandles most = Due.ruled("sort 0 time -9999 to -9999 colour -9999 to -9999;sort 1 time 9999 to 9999 colour 9999 to 9999;");
    most.anchor(0, 0, -40000, -40000);
    most.anchor(0, 1, 40000, 40000);
    most.light(0, 0, 9, 30000, 0, 3000, 3000);
    most.light(0, 1, 9, -5000, 0, 3000, 3000);
    // 89994 and 40000 against -64994 and -40000, shared by four.
    D.due("two anchors and two lights", most.widening(NONE), 58747);
  }

  private static void blameIsASet() {
    D.said("3: BLAME: the SET of LISTS each of which, left out alone, ends the QUARREL (bit k for k)");
    for (int one = 0; one < 6; one++) {
      for (int other = 0; other < 6; other++) {
        FarCandles x = new FarCandles();
        x.shift(one, 0, 0, 1);
        x.shift(other, 0, 5, 6);
        D.due("lists " + one + " and " + other, x.blame(), 1 << one | 1 << other);
      }
    }
    FarCandles x = new FarCandles();
    int[][] lights = {{0, 0, 0}, {0, 1, 100}, {1, 1, 0}, {1, 2, 100}, {2, 2, 0}, {2, 0, 100}};
    for (int list = 0; list < 6; list++) {
      x.light(list, lights[list][0], lights[list][1], lights[list][2], 0, 0, 0);
    }
    D.due("all six lists", x.blame(), 63);
  }

  private static void blameOfNone() {
    D.said("3: BLAME, the empty SET");
    D.due("three apart", shifts(0, 1, 5, 6, 10, 11).blame(), 0);
    FarCandles x = new FarCandles();
    x.shift(0, 0, 0, 1);
    x.shift(1, 0, 5, 6);
    x.shift(0, 1, 5, 6);
    x.shift(2, 1, 0, 1);
    D.due("two quarrels, one list in both", x.blame(), 1);
    x.shift(1, 1, 0, 1);
    D.due("two against the one in both", x.blame(), 1);
    x.shift(3, 0, 0, 1);
    D.due("two quarrels, none in both", x.blame(), 0);
  }

  private static void blameAlone() {
    D.said("Promise 19: NOT: they do not QUARREL");
    D.due("none told", new FarCandles().blame(), NOT);
    D.due("spans that touch", shifts(0, 1, 1, 2).blame(), NOT);
    D.due("a gap of one", shifts(0, 1, 2, 2).blame(), 3);
    FarCandles x = shifts(0, 1, 2, 2);
    x.leave(1, true);
    D.due("ended by leaving out", x.blame(), NOT);
    x.leave(1, false);
    x.undo();
    D.due("ended by undoing", x.blame(), NOT);
    x.redo();
    Due.read(x, "blur 0 by 1;");
    D.due("ended by a blur", x.blame(), NOT);
  }

  private static void odd(String when, FarCandles x, int many, int first, int second) {
    int[] wants = {NONE, NONE, many, first, second, NONE, NONE};
    for (int i = -3; i <= 3; i++) {
      D.due(when + ": odd(" + i + ")", x.odd(i), wants[i + 3]);
    }
    D.due(when + ": odd of the least int", x.odd(Integer.MIN_VALUE), NONE);
    D.due(when + ": odd of the greatest int", x.odd(Integer.MAX_VALUE), NONE);
  }

  private static void oddOne() {
    D.said("3: ODD: the fewest TELLINGS that, left out, end it: one");
    odd("two apart", shifts(0, 1, 5, 6), 1, 0, NONE);
    odd("two against one", shifts(0, 1, 0, 1, 5, 6), 1, 2, NONE);
    odd("two against one", shifts(0, 1, 5, 6, 0, 1), 1, 1, NONE);
    odd("a ring", ring(1), 1, 0, NONE);
    int[] ends = new int[160];
    ends[158] = 5;
    ends[159] = 5;
    odd("the last of eighty", shifts(ends), 1, 79, NONE);
    ends[158] = 0;
    ends[159] = 0;
    ends[0] = 5;
    ends[1] = 5;
    odd("the first of eighty", shifts(ends), 1, 0, NONE);
  }

  private static void oddTwo() {
    D.said("3: ODD: the fewest TELLINGS (2 at most)");
    odd("two against two", shifts(0, 1, 5, 6, 0, 1, 5, 6), 2, 0, 2);
    odd("two against three", shifts(0, 1, 5, 6, 0, 1, 5, 6, 0, 1), 2, 1, 3);
    odd("three apart", shifts(0, 1, 5, 6, 10, 11), 2, 0, 1);
    int[] ends = new int[160];
    for (int n = 156; n < 160; n++) {
      ends[n] = 5;
    }
    odd("the last two of eighty", shifts(ends), 2, 78, 79);
    ends[157] = 0;
    ends[156] = 0;
    ends[0] = 5;
    ends[1] = 5;
    odd("the first and the last of eighty", shifts(ends), 2, 0, 79);
  }

  private static void oddMoreThanTwo() {
    D.said("Promise 20: i = NONE how many (NONE: two do not do)");
    odd("three against three", shifts(0, 1, 5, 6, 0, 1, 5, 6, 0, 1, 5, 6), NONE, NONE, NONE);
    odd("four apart", shifts(0, 1, 5, 6, 10, 11, 15, 16), NONE, NONE, NONE);
    FarCandles x = new FarCandles();
    for (int home = 0; home < 3; home++) {
      x.shift(0, home, 0, 1);
      x.shift(0, home, 5, 6);
    }
    odd("three quarrels", x, NONE, NONE, NONE);
    x.leave(5, true);
    odd("two quarrels", x, 2, 0, 2);
    x.leave(1, true);
    odd("one quarrel", x, 1, 2, NONE);
  }

  private static void oddFirstOfLikeOnes() {
    D.said("3: of like ones the first (by the least one, then the next)");
    odd("either one", shifts(5, 6, 0, 1), 1, 0, NONE);
    odd("three apart, any two", shifts(10, 11, 0, 1, 5, 6), 2, 0, 1);
    FarCandles x = new FarCandles();
    x.shift(0, 1, 0, 1);
    x.shift(0, 2, 0, 1);
    x.shift(0, 2, 5, 6);
    x.shift(0, 1, 5, 6);
    odd("0 or 3 with 1 or 2", x, 2, 0, 1);
    x.leave(1, true);
    x.shift(0, 2, 0, 1);
    odd("0 or 3 with 2 or 4", x, 2, 0, 2);
    x.leave(0, true);
    x.shift(0, 1, 0, 1);
    odd("3 or 5 with 2 or 4", x, 2, 2, 3);
  }

  /** Every row of five shifts, each of one of two homes at one of three places, tried plainly. */
  private static void oddOfAllSmallNets() {
    D.said("3: ODD: the fewest, of like ones the first: all nets of five SHIFTS at three places");
    int many = 6 * 6 * 6 * 6 * 6;
    for (int net = 0; net < many; net++) {
      int[] kinds = new int[5];
      FarCandles x = new FarCandles();
      for (int i = 0, rest = net; i < 5; i++, rest /= 6) {
        kinds[i] = rest % 6;
        x.shift(0, kinds[i] % 2, 10 * (kinds[i] / 2), 10 * (kinds[i] / 2));
      }
      if (agree(kinds, NONE, NONE)) {
        D.due("net " + net, x.odd(NONE), NOT);
      } else {
        oddOfSmallNet("net " + net, x, kinds);
      }
    }
  }

  private static void oddOfSmallNet(String called, FarCandles x, int[] kinds) {
    for (int one = 0; one < 5; one++) {
      if (agree(kinds, one, NONE)) {
        oddIs(called, x, 1, one, NONE);
        return;
      }
    }
    for (int one = 0; one < 5; one++) {
      for (int two = one + 1; two < 5; two++) {
        if (agree(kinds, one, two)) {
          oddIs(called, x, 2, one, two);
          return;
        }
      }
    }
    oddIs(called, x, NONE, NONE, NONE);
  }

  private static void oddIs(String called, FarCandles x, int many, int first, int second) {
    D.due(called + ": how many", x.odd(NONE), many);
    D.due(called + ": the first", x.odd(0), first);
    D.due(called + ": the second", x.odd(1), second);
  }

  /** Whether all shifts of each home but two tell the same place. */
  private static boolean agree(int[] kinds, int one, int two) {
    int[] places = {NONE, NONE};
    for (int i = 0; i < kinds.length; i++) {
      int home = kinds[i] % 2;
      if (i == one || i == two) {
        continue;
      }
      if (places[home] != NONE && places[home] != kinds[i] / 2) {
        return false;
      }
      places[home] = kinds[i] / 2;
    }
    return true;
  }

  private static void oddNoSuch() {
    D.said("Promise 20: NONE: there is none such. NOT: they do not QUARREL.");
    for (int i = -2; i <= 2; i++) {
      D.due("none told", new FarCandles().odd(i), NOT);
      D.due("spans that touch", shifts(0, 1, 1, 2).odd(i), NOT);
    }
    D.due("no second of one", shifts(0, 1, 5, 6).odd(1), NONE);
    D.due("no third of two", shifts(0, 1, 5, 6, 10, 11).odd(2), NONE);
    FarCandles x = shifts(0, 1, 5, 6, 0, 1);
    x.undo();
    D.due("an undone one does not count", x.odd(0), 0);
    x.redo();
    x.leave(0, true);
    D.due("nor one that is left out", x.odd(0), 1);
  }

  private static void worth() {
    D.said("3: WORTH of a LIST for a HOME: by how much its ENDS would be further apart without it");
    FarCandles x = shifts(0, 100, 0, 100, 10, 100, 0, 80);
    int[] wants = {0, 0, 10, 20, 0, 0};
    for (int list = 0; list < 6; list++) {
      D.due("list " + list, x.worth(list, 0), wants[list]);
    }
    D.due("the most", shifts(-40000, 40000, 7, 7).worth(1, 0), 80000);
    FarCandles y = new FarCandles();
    y.shift(0, 0, 0, 100);
    y.shift(1, 0, 40, 100);
    y.shift(1, 0, 0, 60);
    D.due("all of a list go", y.worth(1, 0), 80);
    y.leave(1, true);
    D.due("what is left out is not its own", y.worth(1, 0), 40);
    y.blind(999);
    D.due("HIDDEN is on neither", y.worth(1, 0), 40);
  }

  private static void worthLarge() {
    D.said("3: LARGE, if it were LOOSE then");
    D.due("one telling", shifts(5, 5).worth(0, 0), LARGE);
    D.due("two of two lists", shifts(5, 5, 5, 5).worth(0, 0), 0);
    FarCandles x = new FarCandles();
    x.shift(5, 0, 5, 5);
    x.shift(5, 0, 5, 5);
    D.due("two of one list", x.worth(5, 0), LARGE);
    x.light(4, 0, 0, 0, 0, 0, 0);
    x.light(3, 0, 1, 0, 0, 0, 0);
    for (int list = 3; list < 6; list++) {
      D.due("each step of a way", x.worth(list, 1), LARGE);
    }
    D.due("a list that told nothing", x.worth(2, 1), 0);
    x.anchor(2, 0, -40000, 0);
    D.due("another way, if a wider one", x.worth(5, 1), 40000);
    D.due("and with it the other way is worth nothing", x.worth(2, 1), 0);
  }

  private static void worthLoose() {
    D.said("Promise 21: LOOSE: it is so as it stands");
    FarCandles x = shifts(5, 5);
    for (int list = 0; list < 6; list++) {
      D.due("a loose home", x.worth(list, 1), LOOSE);
      D.due("none told", new FarCandles().worth(list, 0), LOOSE);
    }
    x.light(1, 0, 1, 0, 0, 0, 0);
    D.due("a light alone", x.worth(1, 1), LOOSE);
    x.leave(0, true);
    D.due("left out", x.worth(0, 0), LOOSE);
  }

  private static void lead(String when, FarCandles x, int home, int what, int... wants) {
    D.due(when + ": how many", x.lead(home, what, NONE), wants.length);
    for (int i = 0; i < wants.length; i++) {
      D.due(when + ": lead " + i, x.lead(home, what, i), wants[i]);
    }
    for (int i : new int[] {wants.length, wants.length + 1, 80, Integer.MAX_VALUE, -2, -80, Integer.MIN_VALUE}) {
      D.due(when + ": lead " + i, x.lead(home, what, i), NONE);
    }
  }

  private static void lead() {
    D.said("3: LEAD of an END: the TELLINGS each of which, left out alone, makes it another one");
    FarCandles x = shifts(0, 100, 10, 90, 9, 91);
    lead("one ends both", x, 0, 0, 1);
    lead("one ends both", x, 0, 1, 1);
    x.shift(0, 0, 10, 91);
    lead("two give the lower one alike", x, 0, 0);
    lead("one gives the upper one", x, 0, 1, 1);
    x.leave(1, true);
    lead("left out, the other one gives it", x, 0, 0, 3);
    lead("left out, two others give it alike", x, 0, 1);
    x.undo();
    lead("undone too", x, 0, 0, 2);
    FarCandles y = new FarCandles();
    y.light(0, 0, 1, 100, 0, 0, 0);
    y.shift(0, 1, 10, 30);
    y.anchor(0, 0, 70, 90);
    lead("a light and an anchor give it alike", y, 1, 0);
    lead("a light and an anchor give it alike", y, 1, 1);
    y.shift(0, 1, 10, 31);
    lead("so do others", y, 1, 0);
    y.undo();
    y.undo();
    y.anchor(0, 0, 69, 89);
    lead("the anchor gives the lower one", y, 1, 0, 0, 4);
    lead("the shift gives the upper one", y, 1, 1, 1);
  }

  private static void leadOfNone() {
    D.said("Promise 22: i = NONE how many, else the i-th; NONE: there is none such");
    FarCandles x = shifts(5, 5, 5, 5);
    lead("two alike", x, 0, 0);
    lead("two alike", x, 0, 1);
    lead("one alone", shifts(5, 5), 0, 1, 0);
  }

  private static void leadAtItsMost() {
    D.said("Promise 22: LEAD, as many as there can be");
    FarCandles x = longestWay();
    int[] all = {0, 1, 2, 3, 4, 5, 6, 7, 8, 9, 10, 11, 12};
    lead("six steps and the shift", x, 6, 0, all);
    lead("six steps and the shift", x, 6, 1, all);
    lead("one step and the shift", x, 1, 0, 0, 1, 2);
    FarCandles y = new FarCandles();
    for (int i = 0; i < 79; i++) {
      y.shift(i % 6, 9, 0, 9);
    }
    y.shift(0, 9, 1, 8);
    lead("the last of eighty", y, 9, 0, 79);
  }

  private static void leadOrLoose() {
    D.said("3: (or LOOSE); promise 22: LOOSE");
    lead("the only one", shifts(3, 4), 0, 0, 0);
    D.due("a loose home", shifts(3, 4).lead(1, 0, NONE), LOOSE);
    D.due("a loose home", shifts(3, 4).lead(1, 1, 0), LOOSE);
    D.due("a loose home", shifts(3, 4).lead(1, 1, -2), LOOSE);
    D.due("none told", new FarCandles().lead(0, 0, 5), LOOSE);
  }

  private static void whichEnd() {
    D.said("Promise 16, 22: what = 0 the lower, 1 the upper one; OUTSIDE");
    D.edges("ends' what", 0, 1, OUTSIDE, n -> shifts(3, 4).ends(0, NONE, n), n -> 3 + n);
    D.edges("ends' what, of a loose home", 0, 1, OUTSIDE, n -> shifts(3, 4).ends(5, NONE, n), n -> LOOSE);
    D.edges("lead's what", 0, 1, OUTSIDE, n -> shifts(3, 9, 2, 8).lead(0, n, 0), n -> n);
    D.edges("lead's what, of a loose home", 0, 1, OUTSIDE, n -> shifts(3, 9).lead(5, n, 0), n -> LOOSE);
  }

  private static void steps() {
    D.said("5: STEPS: the fewest LIGHTS on a way: from HOME to HOME by two LIGHTS of one SORT, one in each");
    FarCandles x = longestWay();
    for (int home = 0; home <= 6; home++) {
      D.due("steps(" + home + ")", x.steps(home), 2 * home);
    }
    x.light(0, 0, 6, 0, 0, 0, 0);
    int[] wants = {0, 2, 4, 6, 6, 4, 2};
    for (int home = 0; home <= 6; home++) {
      D.due("from the other side, steps(" + home + ")", x.steps(home), wants[home]);
    }
    FarCandles y = new FarCandles();
    y.shift(0, 9, 0, 0);
    for (int home = 0; home < 10; home++) {
      y.light(0, 5, home, 0, 0, 0, 0);
    }
    for (int home = 0; home < 9; home++) {
      D.due("one sort in every home", y.steps(home), 2);
    }
    D.due("the one with the shift", y.steps(9), 0);
    y.shift(0, 0, 0, 0);
    y.shift(0, 5, 0, 0);
    for (int home = 0; home < 10; home++) {
      D.due("three that have a shift", y.steps(home), home == 0 || home == 5 || home == 9 ? 0 : 2);
    }
  }

  private static void stepsNone() {
    D.said("5: (HOMES that have a SHIFT: 0; NONE: no way)");
    FarCandles x = new FarCandles();
    x.light(0, 0, 0, 0, 0, 0, 0);
    x.light(0, 0, 1, 0, 0, 0, 0);
    x.anchor(0, 0, 0, 0);
    D.due("no shift, but an anchor", x.steps(0), NONE);
    x.shift(0, 1, 0, 0);
    D.due("by its neighbour", x.steps(0), 2);
    D.due("its own", x.steps(1), 0);
    D.due("no light", x.steps(2), NONE);
    x.light(0, 1, 2, 0, 0, 0, 0);
    D.due("a light of another sort", x.steps(2), NONE);
    x.light(0, 1, 2, 5, 0, 0, 0);
    D.due("two lights in one home", x.steps(2), NONE);
    x.shift(0, 2, 0, 0);
    D.due("a shift, whatever else", x.steps(2), 0);
  }

  private static void stepsOfTheNetAlone() {
    D.said("5: Of TELLINGS in THE NET alone.");
    for (int gone = 0; gone < 3; gone++) {
      FarCandles x = new FarCandles();
      x.shift(0, 0, 0, 0);
      x.light(0, 0, 0, 0, 0, 0, 0);
      x.light(0, 0, 1, 0, 0, 0, 0);
      D.due("all in", x.steps(1), 2);
      x.leave(gone, true);
      D.due("one left out", x.steps(1), NONE);
      x.leave(gone, false);
      D.due("in again", x.steps(1), 2);
      for (int n = 0; n <= gone; n++) {
        x.undo();
      }
      D.due("undone", x.steps(1), NONE);
    }
    FarCandles y = ring(1);
    y.shift(0, 0, 0, 0);
    D.due("in a quarrel too", y.steps(1), 2);
  }
}
