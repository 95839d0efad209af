/** Promises 1 to 11: a new object, tellings, what is left out, undone, told and counted. */
public final class TellingsTest {
  private static final Due D = new Due();
  private static final int MIN = Integer.MIN_VALUE, MAX = Integer.MAX_VALUE;

  public static void main(String[] args) {
    newObject();
    light();
    shift();
    anchor();
    full();
    redden();
    redness();
    leave();
    undoAndRedo();
    undoneStayUndone();
    told();
    spansOfLights();
    count();
    D.end();
  }

  private static void counts(FarCandles x, String when, int... wants) {
    for (int what = 0; what < wants.length; what++) {
      D.due(when + ", count(" + what + ")", x.count(what), wants[what]);
    }
  }

  private static void newObject() {
    FarCandles x = new FarCandles();
    counts(x, "new", 0, 0, 0, 0, 10, 0, 0, 0, 0);
    for (int i = 0; i < 6; i++) {
      for (int what = 0; what < 4; what++) {
        D.due("new, rule(" + what + ", " + i + ")", x.rule(what, i), 0);
      }
      D.due("new, blur", x.rule(6, i), 0);
    }
    D.due("new, dust least", x.rule(4, 0), 31);
    D.due("new, dust greatest", x.rule(5, 0), 31);
    D.due("new, own", x.rule(7, 0), 0);
    D.due("new, fault", x.fault(), FarCandles.NONE);
    D.due("new, undo", x.undo(), FarCandles.NOT);
    D.due("new, redo", x.redo(), FarCandles.NOT);
    D.due("new, told", x.told(0, 0), FarCandles.UNKNOWN);
    D.due("new, claim", x.claim(0, 0), FarCandles.UNKNOWN);
    D.due("new, open", x.open(), FarCandles.NOT);
    D.due("new, redness", x.redness(9, FarCandles.NONE), FarCandles.NONE);
    D.due("new, widening", x.widening(FarCandles.NONE), 0);
    D.due("new, widening by none known", x.widening(0), 0);
    FarCandles y = new FarCandles();
    y.shift(0, 0, 1, 2);
    D.due("another object has its own tellings", x.count(0), 0);
  }

  private static void light() {
    FarCandles x = new FarCandles();
    int[][] unknown = {{-1, 0, 0}, {6, 0, 0}, {0, -1, 0}, {0, 6, 0}, {0, 0, -1}, {0, 0, 10}, {MIN, 0, 0}, {0, MAX, 0}};
    for (int[] u : unknown) {
      D.due("light of no such list, sort or home", x.light(u[0], u[1], u[2], 0, 0, 0, 0), FarCandles.UNKNOWN);
      D.due("UNKNOWN is ahead of OUTSIDE", x.light(u[0], u[1], u[2], 30001, 0, 0, 0), FarCandles.UNKNOWN);
    }
    int[][] outside = {{-5001, 0, 0, 0}, {30001, 0, 0, 0}, {0, -1, 0, 0}, {0, 1000, 0, 0}, {0, 0, -1, 0},
      {0, 0, 3001, 0}, {0, 0, 0, -501}, {0, 0, 0, 3001}, {MIN, 0, 0, 0}, {0, MAX, 0, 0}, {0, 0, MIN, 0}, {0, 0, 0, MAX}};
    for (int[] o : outside) {
      D.due("light out of bounds", x.light(0, 0, 0, o[0], o[1], o[2], o[3]), FarCandles.OUTSIDE);
    }
    counts(x, "after refused lights", 0, 0, 0, 0, 10, 0, 0, 0, 0);
    D.due("the least light", x.light(0, 0, 0, -5000, 0, 0, -500), 0);
    D.due("the greatest light", x.light(5, 5, 9, 30000, 999, 3000, 3000), 1);
    D.due("count(8)", x.count(8), 2);
  }

  private static void shift() {
    FarCandles x = new FarCandles();
    D.due("shift by no list", x.shift(6, 0, 0, 0), FarCandles.UNKNOWN);
    D.due("shift by no list", x.shift(-1, 0, 0, 0), FarCandles.UNKNOWN);
    D.due("shift of no home", x.shift(0, 10, 0, 0), FarCandles.UNKNOWN);
    D.due("shift of no home", x.shift(0, -1, 5, 4), FarCandles.UNKNOWN);
    int[][] outside = {{-40001, 0}, {0, 40001}, {5, 4}, {40001, 40001}, {-40001, -40001}, {MIN, MAX}, {MAX, MIN}};
    for (int[] o : outside) {
      D.due("shift out of bounds", x.shift(0, 0, o[0], o[1]), FarCandles.OUTSIDE);
    }
    D.due("nothing told", x.count(0), 0);
    D.due("the widest shift", x.shift(5, 9, -40000, 40000), 0);
    D.due("a shift of one number", x.shift(0, 9, 7, 7), 1);
    D.due("its lower end", x.ends(9, -1, 0), 7);
  }

  private static void anchor() {
    FarCandles x = new FarCandles();
    D.due("anchor by no list", x.anchor(6, 0, 0, 0), FarCandles.UNKNOWN);
    D.due("anchor of no sort", x.anchor(0, 6, 0, 0), FarCandles.UNKNOWN);
    D.due("anchor of no sort", x.anchor(0, -1, 5, 4), FarCandles.UNKNOWN);
    int[][] outside = {{-40001, 0}, {0, 40001}, {5, 4}, {MAX, MAX}, {MIN, MIN}};
    for (int[] o : outside) {
      D.due("anchor out of bounds", x.anchor(0, 0, o[0], o[1]), FarCandles.OUTSIDE);
    }
    D.due("nothing told", x.count(0), 0);
    D.due("anchor", x.anchor(5, 5, -40000, 40000), 0);
    D.due("anchor", x.anchor(0, 5, -3, -1), 1);
    D.due("light of the anchored sort", x.light(0, 5, 4, 100, 2, 0, 0), 2);
    D.due("an anchor ties: lower", x.ends(4, -1, 0), 99);
    D.due("an anchor ties: upper", x.ends(4, -1, 1), 105);
  }

  private static void full() {
    FarCandles x = new FarCandles();
    for (int i = 0; i < 80; i++) {
      D.due("telling " + i, i % 2 == 0 ? x.shift(0, 0, 0, 9) : x.anchor(0, 0, 0, 9), i);
    }
    D.due("undo of the last", x.undo(), 79);
    D.due("light when full", x.light(0, 0, 0, 0, 0, 0, 0), FarCandles.FULL);
    D.due("shift when full", x.shift(0, 0, 0, 0), FarCandles.FULL);
    D.due("anchor when full", x.anchor(0, 0, 0, 0), FarCandles.FULL);
    D.due("OUTSIDE is ahead of FULL", x.light(0, 0, 0, 0, 1000, 0, 0), FarCandles.OUTSIDE);
    D.due("OUTSIDE is ahead of FULL", x.shift(0, 0, 1, 0), FarCandles.OUTSIDE);
    D.due("UNKNOWN is ahead of FULL", x.anchor(0, 9, 0, 0), FarCandles.UNKNOWN);
    D.due("a refused one was not told: redo", x.redo(), 79);
    counts(x, "full", 80, 80, 0, 0, 9);
    D.due("the 80th is told", x.told(79, 0), 2);
    D.due("no 81st", x.told(80, 0), FarCandles.UNKNOWN);
    D.due("known by 80", x.ends(0, 80, 1), 9);
    D.due("steps of 80", x.steps(0), 0);
    D.due("steps of 80", x.steps(9), FarCandles.NONE);
    D.due("known by 81", x.ends(0, 81, 1), FarCandles.OUTSIDE);
  }

  private static void redden() {
    FarCandles x = new FarCandles();
    x.light(0, 0, 3, 1000, 0, 0, 0);
    D.due("redden of no home", x.redden(10, 0, 0), FarCandles.UNKNOWN);
    D.due("redden of no home", x.redden(-1, 5, 4), FarCandles.UNKNOWN);
    D.due("below", x.redden(3, -1, 4), FarCandles.OUTSIDE);
    D.due("above", x.redden(3, 0, 2001), FarCandles.OUTSIDE);
    D.due("no span", x.redden(3, 5, 4), FarCandles.OUTSIDE);
    D.due("far out", x.redden(3, MIN, MAX), FarCandles.OUTSIDE);
    D.due("refused: low as it was", x.told(0, 5), 1000);
    D.due("redden", x.redden(3, 1, 1), 1);
    D.due("low less CEILING of 31 / 10", x.told(0, 5), 996);
    D.due("high less FLOOR of 31 / 10", x.told(0, 6), 997);
    D.due("redden the most", x.redden(3, 2000, 2000), 1);
    D.due("low", x.told(0, 5), -5200);
    D.due("redden another home", x.redden(4, 0, 10), 1);
    D.due("low as it was", x.told(0, 5), -5200);
    D.due("redden back", x.redden(3, 0, 0), 1);
    D.due("low as at first", x.told(0, 5), 1000);
    x.shift(0, 3, 10, 20);
    x.anchor(0, 0, 10, 20);
    x.redden(3, 10, 10);
    D.due("dust is no shift's", x.told(1, 5), 10);
    D.due("dust is no anchor's", x.told(2, 6), 20);
  }

  private static void redness() {
    FarCandles x = new FarCandles();
    D.due("no home", x.redness(10, 0), FarCandles.UNKNOWN);
    D.due("no home", x.redness(-1, -2), FarCandles.UNKNOWN);
    D.due("below", x.redness(0, -2), FarCandles.OUTSIDE);
    D.due("above", x.redness(0, 100000), FarCandles.OUTSIDE);
    D.due("the least", x.redness(0, 0), FarCandles.NONE);
    D.due("the greatest", x.redness(0, 99999), 0);
    D.due("refused", x.redness(0, MAX), FarCandles.OUTSIDE);
    D.due("none again", x.redness(0, FarCandles.NONE), 99999);
    D.due("it was none", x.redness(0, 5), FarCandles.NONE);
    D.due("another home's", x.redness(9, 6), FarCandles.NONE);
    D.due("its own", x.redness(0, 7), 5);
  }

  private static void leave() {
    FarCandles x = new FarCandles();
    D.due("no telling", x.leave(0, true), FarCandles.UNKNOWN);
    x.shift(0, 0, 5, 9);
    x.shift(0, 0, 7, 8);
    D.due("no telling", x.leave(2, true), FarCandles.UNKNOWN);
    D.due("no telling", x.leave(-1, false), FarCandles.UNKNOWN);
    D.due("not left out yet", x.leave(1, false), 0);
    D.due("leave", x.leave(1, true), 0);
    D.due("leave again", x.leave(1, true), 1);
    D.due("without it", x.ends(0, -1, 0), 5);
    D.due("without it, known by all", x.ends(0, 2, 0), 5);
    counts(x, "one left out", 2, 1, 1, 0);
    D.due("take in", x.leave(1, false), 1);
    D.due("with it", x.ends(0, -1, 0), 7);
    x.undo();
    D.due("an undone one may be left out", x.leave(1, true), 0);
    counts(x, "left out and undone", 2, 1, 1, 1);
    D.due("redo does not take it in", x.redo(), 1);
    counts(x, "left out still", 2, 1, 1, 0);
    D.due("undo takes one that is left out", x.undo(), 1);
  }

  private static void undoAndRedo() {
    FarCandles x = new FarCandles();
    x.shift(0, 0, 1, 9);
    x.shift(0, 0, 2, 8);
    x.shift(0, 0, 3, 7);
    D.due("undo", x.undo(), 2);
    D.due("undo", x.undo(), 1);
    D.due("lower end", x.ends(0, -1, 0), 1);
    counts(x, "two undone", 3, 1, 0, 2);
    D.due("redo", x.redo(), 1);
    D.due("undo", x.undo(), 1);
    D.due("undo", x.undo(), 0);
    D.due("undo of none", x.undo(), FarCandles.NOT);
    counts(x, "all undone", 3, 0, 0, 3, 10);
    D.due("known by three undone ones", x.ends(0, 3, 0), FarCandles.LOOSE);
    D.due("redo", x.redo(), 0);
    D.due("redo", x.redo(), 1);
    D.due("redo", x.redo(), 2);
    D.due("redo of none", x.redo(), FarCandles.NOT);
    D.due("lower end", x.ends(0, -1, 0), 3);
  }

  private static void undoneStayUndone() {
    FarCandles x = new FarCandles();
    x.shift(0, 0, 1, 9);
    x.shift(0, 0, 2, 8);
    D.due("undo", x.undo(), 1);
    D.due("a refused telling is none", x.shift(0, 0, 2, 1), FarCandles.OUTSIDE);
    D.due("redo", x.redo(), 1);
    D.due("undo", x.undo(), 1);
    D.due("told anew", x.shift(0, 0, 3, 7), 2);
    D.due("one was told since", x.redo(), FarCandles.NOT);
    D.due("it stays undone", x.told(1, 4), 0);
    D.due("undo", x.undo(), 2);
    D.due("undo passes it", x.undo(), 0);
    D.due("redo of the latest", x.redo(), 0);
    D.due("redo", x.redo(), 2);
    D.due("the older one stays", x.redo(), FarCandles.NOT);
    counts(x, "at last", 3, 2, 0, 1);
  }

  private static void told() {
    FarCandles x = new FarCandles();
    x.light(3, 4, 5, 6000, 7, 8, 9);
    x.shift(2, 1, -10, 20);
    x.anchor(1, 2, -30, 40);
    int[][] wants = {{0, 3, 4, 5, 1, 5993, 6007}, {1, 2, -1, 1, 1, -10, 20}, {2, 1, 2, -1, 1, -30, 40}};
    for (int i = 0; i < wants.length; i++) {
      for (int what = 0; what < 7; what++) {
        D.due("told(" + i + ", " + what + ")", x.told(i, what), wants[i][what]);
      }
    }
    D.due("no telling", x.told(3, 0), FarCandles.UNKNOWN);
    D.due("no telling", x.told(-1, 9), FarCandles.UNKNOWN);
    D.due("no such what", x.told(0, 7), FarCandles.OUTSIDE);
    D.due("no such what", x.told(0, -1), FarCandles.OUTSIDE);
    x.leave(0, true);
    D.due("left out", x.told(0, 4), 0);
    D.due("its low all the same", x.told(0, 5), 5993);
    Due.read(x, "blur 1 by 5; blur 2 by 6;");
    D.due("blur", x.told(1, 5), -16);
    D.due("blur", x.told(1, 6), 26);
    D.due("blur", x.told(2, 5), -35);
    D.due("blur", x.told(2, 6), 45);
    D.due("another list's", x.told(0, 6), 6007);
  }

  private static void spansOfLights() {
    FarCandles x = new FarCandles();
    Due.read(x, "sort 1 time -7 to 5 colour -3 to 2; dust 10 to 20; blur 0 by 4;");
    x.light(0, 1, 0, 1000, 10, 301, 101);
    // EVEN from -2107 - 303 to 1505 + 202.
    D.due("colour above 0: low", x.told(0, 5), 1000 - 10 - 2 - 4);
    D.due("colour above 0: high", x.told(0, 6), 1000 + 10 + 3 + 4);
    x.light(1, 1, 0, 1000, 10, 301, -500);
    // EVEN from -2107 - 1000 to 1505 + 1500.
    D.due("colour below 0: low", x.told(1, 5), 1000 - 10 - 4);
    D.due("colour below 0: high", x.told(1, 6), 1000 + 10 + 4);
    x.light(1, 1, 0, 0, 0, 0, 0);
    D.due("no time, no colour: low", x.told(2, 5), 0);
    x.redden(0, 3, 4);
    D.due("dust: low", x.told(2, 5), -8);
    D.due("dust: high", x.told(2, 6), -3);
    x.light(1, 2, 0, 100, 0, 3000, 3000);
    D.due("another sort has no law", x.told(3, 5), 92);
    Due.read(x, "sort 2 time 9999 to 9999 colour 9999 to 9999; dust 99 to 99; blur 1 by 999;");
    x.redden(0, 2000, 2000);
    D.due("the most of all: low", x.told(3, 5), 100 - 59994 - 19800 - 999);
    D.due("the most of all: high", x.told(3, 6), 100 - 59994 - 19800 + 999);
    Due.read(x, "sort 2 time 1 to 1 colour 0 to 0;");
    x.redden(0, 0, 0);
    x.light(0, 2, 0, 0, 0, 1000, 0);
    x.light(0, 2, 0, 0, 0, 1, 0);
    D.due("a whole EVEN: low", x.told(4, 5), -1);
    D.due("a whole EVEN: high", x.told(4, 6), -1);
    D.due("a part of one: low", x.told(5, 5), -1);
    D.due("a part of one: high", x.told(5, 6), 0);
  }

  private static void count() {
    FarCandles x = new FarCandles();
    D.due("no such what", x.count(-1), FarCandles.OUTSIDE);
    D.due("no such what", x.count(9), FarCandles.OUTSIDE);
    x.shift(0, 0, 100, 200);
    x.light(0, 0, 0, 500, 0, 0, 0);
    x.light(1, 0, 1, 700, 0, 0, 0);
    x.light(1, 1, 2, 700, 0, 0, 0);
    Due.read(x, "claim 0 above 5;claim 1 below 6;");
    Due.feed(x, "own 5");
    counts(x, "four told", 4, 4, 0, 0, 8, 2, 5, 0, 3);
    x.undo();
    x.leave(1, true);
    x.blind(0);
    counts(x, "one undone, one left out", 4, 2, 1, 1, 9, 2, 5, 1, 3);
    x.open();
    D.due("opened", x.count(7), 0);
    x.shift(0, 0, 300, 400);
    counts(x, "they quarrel", 5, 3, 1, 1, -1, 2, 5, 0, 3);
  }
}
