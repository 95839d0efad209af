/** Terms: "REFUSALS, of several the first in this order": every two that can be due at once. */
public final class OrderTest {
  private static final Due D = new Due();
  private static final int NONE = FarCandles.NONE, UNKNOWN = FarCandles.UNKNOWN, OUTSIDE = FarCandles.OUTSIDE;
  private static final int NOT = FarCandles.NOT, FULL = FarCandles.FULL, QUARREL = FarCandles.QUARREL;
  private static final int LOOSE = FarCandles.LOOSE;
  private static final int[] NO_LISTS = {-1, 6, Integer.MIN_VALUE, Integer.MAX_VALUE};
  private static final int[] NO_SORTS = NO_LISTS;
  private static final int[] NO_HOMES = {-1, 10, Integer.MIN_VALUE, Integer.MAX_VALUE};
  // No end, no box, no k, and nothing that could be told or asked.
  private static final int[] OUT = {-41000, 41000, Integer.MIN_VALUE, Integer.MAX_VALUE};

  public static void main(String[] args) {
    unknownAheadOfOutside();
    unknownAheadOfFull();
    unknownAheadOfQuarrel();
    unknownAheadOfNot();
    outsideAheadOfNot();
    outsideAheadOfFull();
    outsideAheadOfQuarrel();
    quarrelAheadOfNot();
    refusalsAheadOfLoose();
    quarrelAheadOfLoose();
    noQuarrelWhereNoneIsNamed();
    threeAtOnce();
    D.end();
  }

  private static FarCandles full() {
    FarCandles x = new FarCandles();
    for (int i = 0; i < 80; i++) {
      x.shift(0, 0, 0, 9);
    }
    return x;
  }

  private static FarCandles quarrel() {
    FarCandles x = Due.ruled("claim 0 above 5;");
    x.shift(0, 0, 0, 1);
    x.shift(1, 0, 5, 6);
    return x;
  }

  private static void unknownAheadOfOutside() {
    D.said("Terms: UNKNOWN, OUTSIDE");
    FarCandles x = Due.ruled("claim 0 above 5;");
    x.shift(0, 0, 0, 9);
    for (int o : OUT) {
      for (int h : NO_HOMES) {
        D.due("light", x.light(0, 0, h, o, 0, 0, 0), UNKNOWN);
        D.due("light", x.light(0, 0, h, 0, 0, 0, o), UNKNOWN);
        D.due("shift", x.shift(0, h, o, 0), UNKNOWN);
        D.due("redden", x.redden(h, o, 0), UNKNOWN);
        D.due("redden", x.redden(h, 0, o), UNKNOWN);
        D.due("redness", x.redness(h, o == 41000 ? 100000 : o), UNKNOWN);
        D.due("ends' k", x.ends(h, o, 0), UNKNOWN);
        D.due("ends' what", x.ends(h, NONE, o), UNKNOWN);
        D.due("between", x.between(h, 0, o), UNKNOWN);
        D.due("between", x.between(0, h, o), UNKNOWN);
        D.due("lead", x.lead(h, o, 0), UNKNOWN);
        D.due("delay's u", x.delay(h, 0, 1), UNKNOWN);
        D.due("delay's v", x.delay(h, 2, 1), UNKNOWN);
      }
      for (int s : NO_SORTS) {
        D.due("light", x.light(0, s, 0, 0, o, 0, 0), UNKNOWN);
        D.due("anchor", x.anchor(0, s, o, 0), UNKNOWN);
        D.due("light by no list", x.light(s, 0, 0, 0, 0, o, 0), UNKNOWN);
        D.due("shift by no list", x.shift(s, 0, 0, o), UNKNOWN);
        D.due("anchor by no list", x.anchor(s, 0, 0, o), UNKNOWN);
      }
    }
    D.due("a span the wrong way round", x.shift(6, 0, 5, 4), UNKNOWN);
    D.due("a span the wrong way round", x.anchor(0, 6, 5, 4), UNKNOWN);
    for (int i : new int[] {-1, 1, Integer.MIN_VALUE, Integer.MAX_VALUE}) {
      D.due("told", x.told(i, -1), UNKNOWN);
      D.due("told", x.told(i, 7), UNKNOWN);
      D.due("claim", x.claim(i, -1), UNKNOWN);
      D.due("claim", x.claim(i, 4), UNKNOWN);
    }
  }

  private static void unknownAheadOfFull() {
    D.said("Terms: UNKNOWN, .. FULL");
    FarCandles x = full();
    for (int n : NO_LISTS) {
      D.due("light by no list", x.light(n, 0, 0, 0, 0, 0, 0), UNKNOWN);
      D.due("shift by no list", x.shift(n, 0, 0, 0), UNKNOWN);
      D.due("anchor by no list", x.anchor(n, 0, 0, 0), UNKNOWN);
      D.due("light of no sort", x.light(0, n, 0, 0, 0, 0, 0), UNKNOWN);
      D.due("anchor of no sort", x.anchor(0, n, 0, 0), UNKNOWN);
    }
    for (int n : NO_HOMES) {
      D.due("light of no home", x.light(0, 0, n, 0, 0, 0, 0), UNKNOWN);
      D.due("shift of no home", x.shift(0, n, 0, 0), UNKNOWN);
    }
    D.due("none of these: light", x.light(0, 0, 0, 0, 0, 0, 0), FULL);
    D.due("none of these: shift", x.shift(0, 0, 0, 0), FULL);
    D.due("none of these: anchor", x.anchor(0, 0, 0, 0), FULL);
  }

  private static void unknownAheadOfQuarrel() {
    D.said("Terms: UNKNOWN, .. QUARREL");
    FarCandles x = quarrel();
    for (int h : NO_HOMES) {
      D.due("ends", x.ends(h, NONE, 0), UNKNOWN);
      D.due("between", x.between(h, 0, 0), UNKNOWN);
      D.due("between", x.between(0, h, 1), UNKNOWN);
      D.due("worth", x.worth(0, h), UNKNOWN);
      D.due("lead", x.lead(h, 0, NONE), UNKNOWN);
      D.due("delay", x.delay(h, 1, 1), UNKNOWN);
    }
    for (int l : NO_LISTS) {
      D.due("worth of no list", x.worth(l, 0), UNKNOWN);
    }
    D.due("claim", x.claim(1, 0), UNKNOWN);
    D.due("claim", x.claim(-1, 0), UNKNOWN);
    D.due("none of these: ends", x.ends(0, NONE, 0), QUARREL);
    D.due("none of these: between", x.between(0, 0, 0), QUARREL);
    D.due("none of these: worth", x.worth(0, 0), QUARREL);
    D.due("none of these: lead", x.lead(0, 0, NONE), QUARREL);
    D.due("none of these: delay", x.delay(0, 1, 1), QUARREL);
    D.due("none of these: claim", x.claim(0, 0), QUARREL);
  }

  private static void unknownAheadOfNot() {
    D.said("Terms: UNKNOWN, .. NOT");
    for (int h : NO_HOMES) {
      D.due("delay, with none told", new FarCandles().delay(h, 1, 1), UNKNOWN);
    }
    D.due("of a home: NOT", new FarCandles().delay(9, 1, 1), NOT);
  }

  private static void outsideAheadOfNot() {
    D.said("Terms: OUTSIDE .., NOT");
    FarCandles x = new FarCandles();
    D.due("delay's u of a loose home", x.delay(0, 0, 1), OUTSIDE);
    D.due("delay's v of a loose home", x.delay(0, 1, 2000000001L), OUTSIDE);
    D.due("delay's v below u of a loose home", x.delay(0, 2, 1), OUTSIDE);
    x.shift(0, 1, -1, 5);
    D.due("delay's u of a home below 0", x.delay(1, 0, 1), OUTSIDE);
    D.due("none of these", x.delay(1, 1, 1), NOT);
    x.blind(1);
    D.due("blind once more", x.blind(1000), OUTSIDE);
    D.due("blind once more", x.blind(-1000), OUTSIDE);
    x.open();
    D.due("blind behind open", x.blind(1000), OUTSIDE);
    D.due("none of these", x.blind(999), NOT);
  }

  private static void outsideAheadOfFull() {
    D.said("Terms: OUTSIDE .., FULL");
    FarCandles x = full();
    for (int o : OUT) {
      D.due("light's m", x.light(0, 0, 0, o, 0, 0, 0), OUTSIDE);
      D.due("light's e", x.light(0, 0, 0, 0, o, 0, 0), OUTSIDE);
      D.due("light's x", x.light(0, 0, 0, 0, 0, o, 0), OUTSIDE);
      D.due("light's c", x.light(0, 0, 0, 0, 0, 0, o), OUTSIDE);
      D.due("shift's u", x.shift(0, 0, o, 0), OUTSIDE);
      D.due("shift's v", x.shift(0, 0, 0, o), OUTSIDE);
      D.due("anchor's u", x.anchor(0, 0, o, 0), OUTSIDE);
      D.due("anchor's v", x.anchor(0, 0, 0, o), OUTSIDE);
    }
    D.due("shift's v below u", x.shift(0, 0, 1, 0), OUTSIDE);
    D.due("anchor's v below u", x.anchor(0, 0, 1, 0), OUTSIDE);
    Due.feed(x, " ".repeat(240));
    D.due("feed of none", x.feed(0, 0L), OUTSIDE);
    D.due("feed of nine", x.feed(9, 0L), OUTSIDE);
    D.due("feed of less than none", x.feed(-1, 0L), OUTSIDE);
    D.due("feed of the least int", x.feed(Integer.MIN_VALUE, 0L), OUTSIDE);
    D.due("feed of the greatest int", x.feed(Integer.MAX_VALUE, 0L), OUTSIDE);
    D.due("none of these", x.feed(1, 0L), FULL);
  }

  private static void outsideAheadOfQuarrel() {
    D.said("Terms: OUTSIDE .., QUARREL");
    FarCandles x = quarrel();
    for (int o : OUT) {
      D.due("ends' k", x.ends(0, o, 0), OUTSIDE);
      D.due("ends' what", x.ends(0, NONE, o), OUTSIDE);
      D.due("between's what", x.between(0, 1, o), OUTSIDE);
      D.due("lead's what", x.lead(0, o, 0), OUTSIDE);
      D.due("boxes' what", x.boxes(o), OUTSIDE);
      D.due("box", x.box(o), OUTSIDE);
      D.due("delay's u", x.delay(0, Math.min(o, 0), 1), OUTSIDE);
      D.due("claim's what", x.claim(0, o), OUTSIDE);
      D.due("count's what", x.count(o), OUTSIDE);
      D.due("widening's k", x.widening(o), OUTSIDE);
    }
    D.due("ends' k, one too many", x.ends(0, 3, 0), OUTSIDE);
    D.due("ends' k, one too few", x.ends(0, -2, 0), OUTSIDE);
    D.due("ends' what", x.ends(0, 2, 2), OUTSIDE);
    D.due("between's what", x.between(0, 1, 2), OUTSIDE);
    D.due("lead's what", x.lead(0, 2, 0), OUTSIDE);
    D.due("boxes' what", x.boxes(4), OUTSIDE);
    D.due("box", x.box(201), OUTSIDE);
    D.due("box", x.box(0), OUTSIDE);
    D.due("delay's v", x.delay(0, 1, 2000000001L), OUTSIDE);
    D.due("delay's v below u", x.delay(0, 2, 1), OUTSIDE);
    D.due("claim's what", x.claim(0, 4), OUTSIDE);
    D.due("none of these: boxes", x.boxes(3), QUARREL);
    D.due("none of these: box", x.box(200), QUARREL);
  }

  private static void quarrelAheadOfNot() {
    D.said("Promise 27: QUARREL ahead of NOT");
    FarCandles x = quarrel();
    D.due("a loose home", x.delay(9, 1, 1), QUARREL);
    x.shift(0, 8, -1, 5);
    D.due("a home below 0", x.delay(8, 1, 1), QUARREL);
    x.leave(0, true);
    D.due("ended: the loose home", x.delay(9, 1, 1), NOT);
    D.due("ended: the home below 0", x.delay(8, 1, 1), NOT);
  }

  private static void refusalsAheadOfLoose() {
    D.said("Promise 16, 17, 21, 22: refusals; LOOSE");
    FarCandles x = new FarCandles();
    D.due("ends' k", x.ends(0, 1, 0), OUTSIDE);
    D.due("ends' what", x.ends(0, NONE, 2), OUTSIDE);
    D.due("between's what", x.between(0, 1, 2), OUTSIDE);
    D.due("lead's what", x.lead(0, 2, NONE), OUTSIDE);
    D.due("worth of no list", x.worth(6, 0), UNKNOWN);
    D.due("none of these: ends", x.ends(0, NONE, 1), LOOSE);
    D.due("none of these: between", x.between(0, 1, 1), LOOSE);
    D.due("none of these: lead", x.lead(0, 1, NONE), LOOSE);
    D.due("none of these: worth", x.worth(5, 0), LOOSE);
  }

  private static void quarrelAheadOfLoose() {
    D.said("Promise 16, 17, 21, 22: QUARREL; LOOSE");
    FarCandles x = quarrel();
    D.due("ends", x.ends(9, NONE, 0), QUARREL);
    D.due("ends by 2", x.ends(9, 2, 0), QUARREL);
    D.due("ends by 1", x.ends(9, 1, 0), LOOSE);
    D.due("between", x.between(8, 9, 0), QUARREL);
    D.due("worth", x.worth(0, 9), QUARREL);
    D.due("worth of a list that would end it", x.worth(1, 0), QUARREL);
    D.due("lead", x.lead(9, 0, NONE), QUARREL);
    D.due("lead", x.lead(9, 1, 7), QUARREL);
  }

  private static void noQuarrelWhereNoneIsNamed() {
    D.said("Promise 2 to 15, 18, 23, 24, 28, 29: calls that name no QUARREL");
    FarCandles x = quarrel();
    D.due("widening", x.widening(NONE), 2);
    D.due("steps", x.steps(0), 0);
    D.due("steps", x.steps(9), NONE);
    D.due("far", x.far(0, 1), 1000);
    D.due("told", x.told(0, 4), 1);
    D.due("count", x.count(1), 2);
    D.due("rule", x.rule(4, 0), 31);
    D.due("fault", x.fault(), NONE);
    D.due("redden", x.redden(0, 0, 1), 1);
    D.due("redness", x.redness(0, 1), NONE);
    D.due("blind", x.blind(1), 1);
    D.due("open", x.open(), 1);
    D.due("shift", x.shift(0, 0, 40, 40), 2);
    D.due("anchor", x.anchor(0, 0, 40, 40), 3);
    D.due("light", x.light(0, 0, 0, 40, 0, 0, 0), 4);
    D.due("leave", x.leave(4, true), 0);
    D.due("undo", x.undo(), 4);
    D.due("redo", x.redo(), 4);
    D.due("feed", x.feed(1, 0x20L), 1);
    D.due("read", x.read(), 0);
  }

  private static void threeAtOnce() {
    D.said("Terms: of several the first in this order");
    FarCandles x = full();
    D.due("light: UNKNOWN, OUTSIDE, FULL", x.light(6, 0, 0, 41000, 0, 0, 0), UNKNOWN);
    D.due("shift: UNKNOWN, OUTSIDE, FULL", x.shift(0, 10, 1, 0), UNKNOWN);
    D.due("anchor: UNKNOWN, OUTSIDE, FULL", x.anchor(0, 6, 1, 0), UNKNOWN);
    FarCandles y = quarrel();
    D.due("ends: UNKNOWN, OUTSIDE, QUARREL", y.ends(10, 9, 9), UNKNOWN);
    D.due("between: UNKNOWN, OUTSIDE, QUARREL", y.between(10, -1, 9), UNKNOWN);
    D.due("lead: UNKNOWN, OUTSIDE, QUARREL", y.lead(10, 9, 9), UNKNOWN);
    D.due("delay: UNKNOWN, OUTSIDE, QUARREL", y.delay(10, 0, 0), UNKNOWN);
    D.due("delay: OUTSIDE, QUARREL, NOT", y.delay(9, 0, 0), OUTSIDE);
    D.due("claim: UNKNOWN, OUTSIDE, QUARREL", y.claim(1, 9), UNKNOWN);
  }
}
