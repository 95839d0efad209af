/** Parts 1 and 5 and promises 1 to 11: each sentence that names a bound, at that bound. */
public final class EdgesOfTellingsTest {
  private static final Due D = new Due();
  private static final int NONE = FarCandles.NONE, UNKNOWN = FarCandles.UNKNOWN, OUTSIDE = FarCandles.OUTSIDE;
  private static final int NOT = FarCandles.NOT, FULL = FarCandles.FULL, LOOSE = FarCandles.LOOSE;

  public static void main(String[] args) {
    noTellings();
    rulesAsAtFirst();
    numbersFromZero();
    lists();
    sorts();
    homes();
    brightness();
    miss();
    time();
    colour();
    spans();
    eightyAtMost();
    eightyOfWhateverSort();
    ceilingAndFloorOfTime();
    ceilingAndFloorOfColour();
    leastAndGreatestLaw();
    dust();
    dustAtItsBounds();
    reddening();
    blur();
    redness();
    rednessKept();
    leave();
    undo();
    redo();
    toldSince();
    told();
    count();
    countAtItsMost();
    fiveHundredAndTwelveCalls();
    D.end();
  }

  private static FarCandles fresh() {
    return new FarCandles();
  }

  private static FarCandles with(int shifts) {
    FarCandles x = new FarCandles();
    for (int i = 0; i < shifts; i++) {
      x.shift(0, 0, 0, 9);
    }
    return x;
  }

  private static void noTellings() {
    D.said("Promise 1: No TELLINGS");
    int[] counts = {0, 0, 0, 0, 10, 0, 0, 0, 0};
    for (int what = 0; what < counts.length; what++) {
      D.due("count(" + what + ")", fresh().count(what), counts[what]);
    }
    for (int what = 0; what < 7; what++) {
      D.due("told(0, " + what + ")", fresh().told(0, what), UNKNOWN);
    }
    D.due("leave", fresh().leave(0, true), UNKNOWN);
    for (int home = 0; home < 10; home++) {
      D.due("ends by none", fresh().ends(home, 0, 0), LOOSE);
      D.due("ends by all", fresh().ends(home, NONE, 1), LOOSE);
      D.due("ends by the first", fresh().ends(home, 1, 1), OUTSIDE);
      D.due("steps", fresh().steps(home), NONE);
      D.due("lead", fresh().lead(home, 0, NONE), LOOSE);
      D.due("worth", fresh().worth(5, home), LOOSE);
      D.due("delay", fresh().delay(home, 1, 1), NOT);
      D.due("between it and the next", fresh().between(home, (home + 1) % 10, 0), LOOSE);
      D.due("redness", fresh().redness(home, 1), NONE);
    }
    D.due("widening", fresh().widening(NONE), 0);
    D.due("widening by none", fresh().widening(0), 0);
    D.due("blame", fresh().blame(), NOT);
    D.due("odd", fresh().odd(NONE), NOT);
    D.due("boxes", fresh().boxes(0), 200);
    D.due("no home speaks", fresh().boxes(3), 0);
    D.due("open", fresh().open(), NOT);
    D.due("fault", fresh().fault(), NONE);
  }

  private static void rulesAsAtFirst() {
    D.said("Promise 1: RULES as at first");
    int[] wants = {0, 0, 0, 0, 31, 31, 0, 0};
    for (int i = 0; i < 6; i++) {
      for (int what = 0; what < wants.length; what++) {
        D.due("rule(" + what + ", " + i + ")", fresh().rule(what, i), wants[what]);
      }
    }
    D.due("no claim", fresh().claim(0, 1), UNKNOWN);
    D.due("an empty text", fresh().read(), 0);
  }

  private static void numbersFromZero() {
    D.said("Terms: What has a number has it from 0 on, as it comes.");
    FarCandles x = fresh();
    D.due("the first", x.anchor(0, 0, 0, 0), 0);
    D.due("the second", x.light(0, 0, 0, 0, 0, 0, 0), 1);
    D.due("the third", x.shift(0, 0, 0, 0), 2);
    x.undo();
    D.due("behind one that is undone", x.shift(0, 0, 0, 0), 3);
    x.leave(0, true);
    D.due("with one left out", x.anchor(0, 0, 0, 0), 4);
    D.due("told of 0", x.told(0, 0), 2);
    D.due("told of 1", x.told(1, 0), 0);
    D.due("told of 2", x.told(2, 0), 1);
  }

  private static void lists() {
    D.said("1: LISTS 0 to 5");
    D.edges("light's list", 0, 5, UNKNOWN, n -> fresh().light(n, 0, 0, 0, 0, 0, 0), n -> 0);
    D.edges("shift's list", 0, 5, UNKNOWN, n -> fresh().shift(n, 0, 0, 0), n -> 0);
    D.edges("anchor's list", 0, 5, UNKNOWN, n -> fresh().anchor(n, 0, 0, 0), n -> 0);
    D.edges("worth's list", 0, 5, UNKNOWN, n -> with(1).worth(n, 0), n -> n == 0 ? FarCandles.LARGE : 0);
    D.edges("rule's list", 0, 5, UNKNOWN, n -> Due.ruled("blur 0 by 7;blur 5 by 8;").rule(6, n), n -> n == 0 ? 7 : 8);
    for (int list = 0; list < 6; list++) {
      FarCandles x = fresh();
      x.light(list, 0, 0, 0, 0, 0, 0);
      D.due("told list", x.told(0, 1), list);
    }
  }

  private static void sorts() {
    D.said("1: SORTS 0 to 5");
    D.edges("light's sort", 0, 5, UNKNOWN, n -> fresh().light(0, n, 0, 0, 0, 0, 0), n -> 0);
    D.edges("anchor's sort", 0, 5, UNKNOWN, n -> fresh().anchor(0, n, 0, 0), n -> 0);
    String laws = "sort 0 time 1 to 2 colour 3 to 4;sort 5 time 11 to 12 colour 13 to 14;";
    for (int w = 0; w < 4; w++) {
      int what = w;
      D.edges("rule's sort", 0, 5, UNKNOWN, n -> Due.ruled(laws).rule(what, n), n -> (n == 0 ? 1 : 11) + what);
    }
    for (int sort = 0; sort < 6; sort++) {
      FarCandles x = fresh();
      x.anchor(0, sort, 0, 0);
      D.due("told sort", x.told(0, 2), sort);
      D.due("an anchor has no home", x.told(0, 3), NONE);
    }
  }

  private static void homes() {
    D.said("1: HOMES 0 to 9");
    D.edges("light's home", 0, 9, UNKNOWN, n -> fresh().light(0, 0, n, 0, 0, 0, 0), n -> 0);
    D.edges("shift's home", 0, 9, UNKNOWN, n -> fresh().shift(0, n, 0, 0), n -> 0);
    D.edges("redden's home", 0, 9, UNKNOWN, n -> fresh().redden(n, 0, 0), n -> 1);
    D.edges("redness's home", 0, 9, UNKNOWN, n -> fresh().redness(n, 0), n -> NONE);
    D.edges("ends' home", 0, 9, UNKNOWN, n -> with(1).ends(n, NONE, 1), n -> n == 0 ? 9 : LOOSE);
    D.edges("between's former home", 0, 9, UNKNOWN, n -> with(1).between(n, 0, 0), n -> n == 0 ? 0 : LOOSE);
    D.edges("between's latter home", 0, 9, UNKNOWN, n -> with(1).between(0, n, 0), n -> n == 0 ? 0 : LOOSE);
    D.edges("worth's home", 0, 9, UNKNOWN, n -> with(1).worth(1, n), n -> n == 0 ? 0 : LOOSE);
    D.edges("lead's home", 0, 9, UNKNOWN, n -> with(1).lead(n, 0, NONE), n -> n == 0 ? 1 : LOOSE);
    D.edges("steps' home", 0, 9, UNKNOWN, n -> with(1).steps(n), n -> n == 0 ? 0 : NONE);
    D.edges("delay's home", 0, 9, UNKNOWN, n -> with(1).delay(n, 1000, 1000), n -> n == 0 ? 0 : NOT);
    for (int home = 0; home < 10; home++) {
      FarCandles x = fresh();
      x.shift(0, home, home, 2 * home);
      D.due("told home", x.told(0, 3), home);
      D.due("a shift has no sort", x.told(0, 2), NONE);
      D.due("its upper end", x.ends(home, NONE, 1), 2 * home);
      D.due("the nine others are loose", x.count(4), 9);
    }
  }

  private static long lowOfLight(FarCandles x, int m, int e, int time, int colour) {
    int i = x.light(0, 0, 0, m, e, time, colour);
    return i < 0 ? i : x.told(i, 5);
  }

  private static void brightness() {
    D.said("1: brightness m (-5000 .. 30000)");
    D.edges("m", -5000, 30000, OUTSIDE, n -> lowOfLight(fresh(), n, 0, 0, 0), n -> n);
  }

  private static void miss() {
    D.said("1: MISS e (0 .. 999)");
    D.edges("e", 0, 999, OUTSIDE, n -> lowOfLight(fresh(), 5, n, 0, 0), n -> 5 - n);
  }

  private static void time() {
    D.said("1: time x (0 .. 3000)");
    String law = "sort 0 time 1000 to 1000 colour 0 to 0;";
    D.edges("x", 0, 3000, OUTSIDE, n -> lowOfLight(Due.ruled(law), 5, 0, n, 0), n -> 5 - n);
  }

  private static void colour() {
    D.said("1: colour c (-500 .. 3000)");
    String law = "sort 0 time 0 to 0 colour 1000 to 1000;";
    D.edges("c", -500, 3000, OUTSIDE, n -> lowOfLight(Due.ruled(law), 5, 0, 0, n), n -> 5 - n);
  }

  private static long endOfShift(int u, int v, int what) {
    FarCandles x = fresh();
    int i = x.shift(0, 4, u, v);
    return i < 0 ? i : x.ends(4, NONE, what);
  }

  private static long endOfAnchor(int u, int v, int what) {
    FarCandles x = fresh();
    int i = x.anchor(0, 4, u, v);
    return i < 0 ? i : x.told(i, 5 + what);
  }

  private static void spans() {
    D.said("1: u, v -40000 .. 40000, v not below u");
    D.edges("shift's u", -40000, 40000, OUTSIDE, n -> endOfShift(n, 40000, 0), n -> n);
    D.edges("shift's v", -40000, 40000, OUTSIDE, n -> endOfShift(-40000, n, 1), n -> n);
    D.edges("anchor's u", -40000, 40000, OUTSIDE, n -> endOfAnchor(n, 40000, 0), n -> n);
    D.edges("anchor's v", -40000, 40000, OUTSIDE, n -> endOfAnchor(-40000, n, 1), n -> n);
    for (int middle : new int[] {-39999, -1, 0, 1, 39999}) {
      D.edges("shift's u up to v", -40000, middle, OUTSIDE, n -> endOfShift(n, middle, 0), n -> n);
      D.edges("shift's v from u on", middle, 40000, OUTSIDE, n -> endOfShift(middle, n, 1), n -> n);
      D.edges("anchor's u up to v", -40000, middle, OUTSIDE, n -> endOfAnchor(n, middle, 0), n -> n);
      D.edges("anchor's v from u on", middle, 40000, OUTSIDE, n -> endOfAnchor(middle, n, 1), n -> n);
    }
  }

  private static void eightyAtMost() {
    D.said("1: TELLINGS (80 at most)");
    for (int kind = 0; kind < 3; kind++) {
      FarCandles x = with(79);
      D.due("the 80th", tell(x, kind), 79);
      D.due("the 81st", tell(x, kind), FULL);
      D.due("how many", x.count(0), 80);
      D.due("told of the 80th", x.told(79, 0), kind);
      D.due("told of the 81st", x.told(80, 0), UNKNOWN);
    }
  }

  private static int tell(FarCandles x, int kind) {
    if (kind == 0) {
      return x.light(0, 0, 0, 0, 0, 0, 0);
    }
    return kind == 1 ? x.shift(0, 0, 0, 9) : x.anchor(0, 0, 0, 0);
  }

  private static void eightyOfWhateverSort() {
    D.said("1: TELLINGS (80 at most), undone or left out as they may be");
    FarCandles undone = with(80);
    FarCandles left = with(80);
    for (int i = 79; i >= 0; i--) {
      D.due("undo", undone.undo(), i);
      D.due("leave", left.leave(i, true), 0);
    }
    for (int kind = 0; kind < 3; kind++) {
      D.due("none is in the net by undoing", tell(undone, kind), FULL);
      D.due("none is in the net by leaving out", tell(left, kind), FULL);
    }
    D.due("none in the net", undone.count(1), 0);
    D.due("none in the net", left.count(1), 0);
    D.due("all are loose", left.ends(0, 80, 0), LOOSE);
  }

  private static void lawOfTime(int law, int x, int low, int high) {
    FarCandles f = Due.ruled("sort 0 time " + law + " to " + law + " colour 0 to 0;");
    f.light(0, 0, 0, 0, 0, x, -500);
    D.due("low at time " + x + ", law " + law, f.told(0, 5), low);
    D.due("high at time " + x + ", law " + law, f.told(0, 6), high);
  }

  private static void ceilingAndFloorOfTime() {
    D.said("1: low: less the CEILING of the greatest of EVEN / 1000; high: less the FLOOR of the least");
    int[][] upward = {{0, 0, 0}, {1, -1, 0}, {999, -1, 0}, {1000, -1, -1}, {1001, -2, -1}, {2999, -3, -2}, {3000, -3, -3}};
    for (int[] u : upward) {
      lawOfTime(1, u[0], u[1], u[2]);
      lawOfTime(-1, u[0], -u[2], -u[1]);
    }
    lawOfTime(9999, 3000, -29997, -29997);
    lawOfTime(-9999, 3000, 29997, 29997);
    lawOfTime(9999, 1, -10, -9);
    lawOfTime(-9999, 1, 9, 10);
  }

  private static void lawOfColour(int law, int c, int low, int high) {
    FarCandles f = Due.ruled("sort 0 time 0 to 0 colour " + law + " to " + law + ";");
    f.light(0, 0, 0, 0, 0, 3000, c);
    D.due("low at colour " + c + ", law " + law, f.told(0, 5), low);
    D.due("high at colour " + c + ", law " + law, f.told(0, 6), high);
  }

  private static void ceilingAndFloorOfColour() {
    D.said("1: the same of a colour below 0");
    int[][] downward = {{-1, 0, 1}, {-499, 0, 1}, {-500, 0, 1}, {0, 0, 0}, {1, -1, 0}, {1000, -1, -1}};
    for (int[] d : downward) {
      lawOfColour(1, d[0], d[1], d[2]);
      lawOfColour(-1, d[0], -d[2], -d[1]);
    }
    lawOfColour(2, -499, 0, 1);
    lawOfColour(2, -500, 1, 1);
    lawOfColour(-2, -500, -1, -1);
    lawOfColour(9999, -500, 4999, 5000);
    lawOfColour(-9999, -500, -5000, -4999);
    lawOfColour(9999, 3000, -29997, -29997);
  }

  private static void leastAndGreatestLaw() {
    D.said("1: EVEN: a x and b c, with any a, b from the SORT's least to its greatest one");
    FarCandles x = Due.ruled("sort 3 time -2 to 4 colour -6 to 8;");
    int[][] lights = {{1000, 1000, -12, 8}, {1000, -500, -7, 6}, {0, -500, -3, 4}, {0, 1000, -8, 6}, {1000, 0, -4, 2}, {0, 0, 0, 0}};
    for (int i = 0; i < lights.length; i++) {
      x.light(0, 3, 0, 0, 0, lights[i][0], lights[i][1]);
      D.due("low of light " + i, x.told(i, 5), lights[i][2]);
      D.due("high of light " + i, x.told(i, 6), lights[i][3]);
    }
    FarCandles y = Due.ruled("sort 3 time -9999 to 9999 colour -9999 to 9999;");
    y.light(0, 3, 0, 0, 0, 3000, 3000);
    D.due("the least of all", y.told(0, 5), -59994);
    D.due("the greatest of all", y.told(0, 6), 59994);
    y.light(0, 2, 0, 0, 0, 3000, 3000);
    D.due("another sort has none", y.told(1, 6), 0);
    nearZero("time -9999 to 9999 colour 1000 to 5000", 0, -1, 1, 5);
    nearZero("time -9999 to 9999 colour 1000 to 5000", 0, 1, -5, -1);
    nearZero("time -9999 to 9999 colour 1000 to 5000", 0, 0, 0, 0);
    nearZero("time -9999 to 9999 colour -5000 to -1000", 0, -1, -5, -1);
    nearZero("time -9999 to 9999 colour -5000 to -1000", 0, 1, 1, 5);
    nearZero("time 1000 to 5000 colour -9999 to 9999", 1, 0, -5, -1);
    nearZero("time -9999 to 9999 colour -9999 to 9999", 0, -1, -10, 10);
  }

  /** Times and colours at 0 and next to it, where least and greatest change places. */
  private static void nearZero(String laws, int time, int c, int low, int high) {
    FarCandles x = Due.ruled("sort 3 " + laws + ";");
    x.light(0, 3, 0, 0, 0, time, c);
    D.due("low at time " + time + ", colour " + c + " by " + laws, x.told(0, 5), low);
    D.due("high at time " + time + ", colour " + c + " by " + laws, x.told(0, 6), high);
  }

  private static void dusty(String rules, int p, int q, int low, int high) {
    FarCandles x = Due.ruled(rules);
    x.light(0, 0, 5, 0, 0, 0, 0);
    D.due("redden(5, " + p + ", " + q + ")", x.redden(5, p, q), 1);
    D.due("low by " + rules + " of " + p + " to " + q, x.told(0, 5), low);
    D.due("high by " + rules + " of " + p + " to " + q, x.told(0, 6), high);
  }

  private static void dust() {
    D.said("1: DUST of a HOME is any from FLOOR of p r / 10 to CEILING of q s / 10");
    dusty("", 1, 1, -4, -3);
    dusty("", 0, 1, -4, 0);
    dusty("", 10, 10, -31, -31);
    dusty("", 9, 11, -35, -27);
    dusty("dust 1 to 1;", 9, 9, -1, 0);
    dusty("dust 1 to 1;", 10, 10, -1, -1);
    dusty("dust 1 to 1;", 11, 11, -2, -1);
    dusty("dust 1 to 2;", 5, 5, -1, 0);
    dusty("dust 10 to 10;", 7, 7, -7, -7);
  }

  private static void dustAtItsBounds() {
    D.said("1: DUST with p, q at 0 and 2000, r, s at 0 and 99");
    dusty("dust 0 to 0;", 2000, 2000, 0, 0);
    dusty("dust 99 to 99;", 0, 0, 0, 0);
    dusty("dust 99 to 99;", 2000, 2000, -19800, -19800);
    dusty("dust 0 to 99;", 2000, 2000, -19800, 0);
    dusty("dust 99 to 99;", 0, 2000, -19800, 0);
  }

  private static long lowReddened(int p, int q) {
    FarCandles x = Due.ruled("dust 10 to 10;");
    x.light(0, 0, 9, 0, 0, 0, 0);
    int was = x.redden(9, p, q);
    return was != 1 ? was : -x.told(0, 5) * 10000L - x.told(0, 6);
  }

  private static void reddening() {
    D.said("1: REDDENING p to q of the HOME (0 .. 2000; 0 to 0 at first)");
    FarCandles x = fresh();
    x.light(0, 0, 9, 0, 0, 0, 0);
    D.due("low at first", x.told(0, 5), 0);
    D.due("high at first", x.told(0, 6), 0);
    D.edges("p", 0, 2000, OUTSIDE, n -> lowReddened(n, 2000), n -> 20000000L + n);
    D.edges("q", 0, 2000, OUTSIDE, n -> lowReddened(0, n), n -> 10000L * n);
    D.edges("p up to q", 0, 7, OUTSIDE, n -> lowReddened(n, 7), n -> 70000L + n);
    D.edges("q from p on", 7, 2000, OUTSIDE, n -> lowReddened(7, n), n -> 10000L * n + 7);
  }

  private static void blur() {
    D.said("1: With blur w of its LIST (RULES) each TELLING's low is less by w, its high more.");
    FarCandles x = Due.ruled("blur 0 by 999;blur 5 by 1;");
    x.light(0, 0, 0, -5000, 999, 0, 0);
    x.shift(0, 0, -40000, 40000);
    x.anchor(0, 0, -40000, 40000);
    x.shift(5, 0, 7, 7);
    x.shift(4, 0, 7, 7);
    int[][] wants = {{-6998, -3002}, {-40999, 40999}, {-40999, 40999}, {6, 8}, {7, 7}};
    for (int i = 0; i < wants.length; i++) {
      D.due("low of " + i, x.told(i, 5), wants[i][0]);
      D.due("high of " + i, x.told(i, 6), wants[i][1]);
    }
    FarCandles y = Due.ruled("blur 3 by 999;");
    y.shift(3, 3, 40000, 40000);
    D.due("beyond 40000", y.ends(3, NONE, 1), 40999);
  }

  private static void redness() {
    D.said("4: REDNESS of HOMES (0 .. 99999; NONE at first); promise 6: becomes v (NONE: none)");
    D.edges("redness", NONE, 99999, OUTSIDE, n -> fresh().redness(0, n), n -> NONE);
    for (int v : new int[] {NONE, 0, 1, 99999}) {
      FarCandles x = fresh();
      x.redness(9, v);
      D.due("it was " + v, x.redness(9, 5), v);
    }
  }

  private static void rednessKept() {
    D.said("Promise 6: what it was");
    FarCandles x = fresh();
    int[] values = {0, 99999, NONE, NONE, 7};
    int was = NONE;
    for (int v : values) {
      D.due("redness becomes " + v, x.redness(0, v), was);
      D.due("another home's", x.redness(1, NONE), NONE);
      was = v;
    }
  }

  private static void leave() {
    D.said("Promise 7: A TELLING is left out or not: what it was (1, 0). UNKNOWN.");
    D.edges("leave one of three", 0, 2, UNKNOWN, n -> with(3).leave(n, true), n -> 0);
    D.edges("leave one of eighty", 0, 79, UNKNOWN, n -> with(80).leave(n, false), n -> 0);
    FarCandles x = with(2);
    boolean[] turns = {true, true, false, false, true};
    int was = 0;
    for (boolean is : turns) {
      D.due("leave(1, " + is + ")", x.leave(1, is), was);
      D.due("in the net", x.told(1, 4), is ? 0 : 1);
      D.due("the other one is", x.told(0, 4), 1);
      was = is ? 1 : 0;
    }
  }

  private static void undo() {
    D.said("Promise 8: The last TELLING that is not UNDONE is: its number. NOT: there is none.");
    D.due("none told", fresh().undo(), NOT);
    FarCandles x = with(80);
    for (int i = 79; i >= 0; i--) {
      D.due("undo", x.undo(), i);
    }
    D.due("all are undone", x.undo(), NOT);
    D.due("all are undone", x.count(3), 80);
    D.due("the 81st undo took none", x.redo(), 0);
    D.due("undo of it", x.undo(), 0);
    FarCandles y = with(1);
    y.leave(0, true);
    D.due("one that is left out", y.undo(), 0);
    D.due("none any more", y.undo(), NOT);
  }

  private static void redo() {
    D.said("Promise 9: The one that was UNDONE latest is put back: its number. NOT: there is none");
    D.due("none told", fresh().redo(), NOT);
    D.due("none undone", with(80).redo(), NOT);
    FarCandles x = with(80);
    for (int i = 79; i >= 0; i--) {
      x.undo();
    }
    for (int i = 0; i < 80; i++) {
      D.due("redo", x.redo(), i);
    }
    D.due("all are put back", x.redo(), NOT);
    D.due("all are in the net", x.count(1), 80);
    // More often to and fro than there are tellings.
    for (int n = 0; n < 90; n++) {
      D.due("undo", x.undo(), 79);
      D.due("redo", x.redo(), 79);
    }
  }

  private static void toldSince() {
    D.said("Promise 9: NOT: or one was told since. (.. those that are UNDONE then stay so.)");
    for (int kind = 0; kind < 3; kind++) {
      FarCandles x = with(2);
      x.undo();
      x.undo();
      D.due("told behind all", tell(x, kind), 2);
      D.due("one was told since", x.redo(), NOT);
      D.due("the first stays undone", x.told(0, 4), 0);
      D.due("the second stays undone", x.told(1, 4), 0);
      D.due("two undone", x.count(3), 2);
      D.due("undo of the new one", x.undo(), 2);
      D.due("undo passes those that are", x.undo(), NOT);
      D.due("redo of the new one", x.redo(), 2);
      D.due("and of no other", x.redo(), NOT);
    }
    FarCandles y = with(79);
    y.undo();
    D.due("the 80th", y.shift(0, 0, 0, 9), 79);
    y.undo();
    D.due("no 81st: FULL", y.shift(0, 0, 0, 9), FULL);
    D.due("so none was told since", y.redo(), 79);
    D.due("the one of before stays", y.redo(), NOT);
  }

  private static void told() {
    D.said("Promise 10: what = 0 .. 6. UNKNOWN, OUTSIDE.");
    int[] wants = {1, 0, NONE, 0, 1, 0, 9};
    D.edges("told's what", 0, 6, OUTSIDE, n -> with(1).told(0, n), n -> wants[n]);
    D.edges("told's telling, of one", 0, 0, UNKNOWN, n -> with(1).told(n, 6), n -> 9);
    D.edges("told's telling, of eighty", 0, 79, UNKNOWN, n -> with(80).told(n, 6), n -> 9);
    FarCandles x = with(3);
    x.undo();
    D.due("an undone one is told of", x.told(2, 6), 9);
    D.due("it is not in the net", x.told(2, 4), 0);
    D.due("the others are", x.told(1, 4), 1);
    x.leave(2, true);
    x.redo();
    D.due("left out and put back: not in the net", x.told(2, 4), 0);
  }

  private static void count() {
    D.said("Promise 11: what = 0 .. 8. OUTSIDE.");
    int[] wants = {1, 1, 0, 0, 9, 0, 0, 0, 0};
    D.edges("count's what", 0, 8, OUTSIDE, n -> with(1).count(n), n -> wants[n]);
    FarCandles x = with(1);
    x.shift(0, 0, 10, 11);
    D.due("LOOSE ones, if they quarrel", x.count(4), -1);
    D.due("OUTSIDE, if they quarrel", x.count(9), OUTSIDE);
  }

  private static void countAtItsMost() {
    D.said("Promise 11: each count at its most");
    FarCandles x = Due.ruled("claim0above0;".repeat(8));
    Due.feed(x, " ".repeat(240));
    for (int i = 0; i < 80; i++) {
      x.light(0, 0, i % 10, 0, 0, 0, 0);
    }
    x.blind(0);
    int[] wants = {80, 80, 0, 0, 10, 8, 240, 1, 80};
    for (int what = 0; what < wants.length; what++) {
      D.due("count(" + what + ")", x.count(what), wants[what]);
    }
    for (int i = 0; i < 80; i++) {
      x.leave(i, true);
      x.undo();
    }
    D.due("all left out", x.count(2), 80);
    D.due("all undone", x.count(3), 80);
    D.due("none in the net", x.count(1), 0);
    D.due("told all the same", x.count(0), 80);
    D.due("lights all the same", x.count(8), 80);
    FarCandles y = fresh();
    for (int home = 0; home < 10; home++) {
      y.shift(0, home, 0, 0);
      D.due("loose ones", y.count(4), 9 - home);
    }
  }

  private static void fiveHundredAndTwelveCalls() {
    D.said("What it is: An object is used for at most 512 calls after it has been made");
    FarCandles x = fresh();
    int calls = 0;
    for (; calls < 80; calls++) {
      x.shift(0, calls % 10, 0, 100 + calls);
    }
    for (; calls < 511; calls++) {
      x.redness(calls % 10, calls);
    }
    D.due("the 512th call", x.redness(0, 0), 510);
    FarCandles y = with(2);
    for (calls = 2; calls < 511; calls++) {
      y.undo();
    }
    D.due("the 512th call", y.redo(), 0);
  }
}
