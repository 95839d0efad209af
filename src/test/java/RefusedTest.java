import java.util.ArrayList;
import java.util.List;
import java.util.function.Supplier;
import java.util.function.ToLongFunction;

/**
 * Terms: "What is refused changes nothing." In several states each call that can be refused is
 * refused once: all answers behind it are as they would have been without it. So they are behind
 * each question that is answered, and behind all of these together.
 */
public final class RefusedTest {
  private static final Due D = new Due();
  private static final int NONE = FarCandles.NONE, UNKNOWN = FarCandles.UNKNOWN, OUTSIDE = FarCandles.OUTSIDE;
  private static final int NOT = FarCandles.NOT, FULL = FarCandles.FULL, QUARREL = FarCandles.QUARREL;
  private static final int MIN = Integer.MIN_VALUE, MAX = Integer.MAX_VALUE;

  private record Call(String name, ToLongFunction<FarCandles> ask, Long refusal) { }

  private static final List<Call> CALLS = new ArrayList<>();

  public static void main(String[] args) {
    D.said("Terms: What is refused changes nothing: a new object");
    on(FarCandles::new, () -> {
      refused("undo()", FarCandles::undo, NOT);
      refused("redo()", FarCandles::redo, NOT);
      refused("blame()", FarCandles::blame, NOT);
      refused("odd(0)", x -> x.odd(0), NOT);
      refused("open()", FarCandles::open, NOT);
      refused("delay(0, 1, 1)", x -> x.delay(0, 1, 1), NOT);
    });
    D.said("Terms: What is refused changes nothing: something of all");
    on(RefusedTest::some, () -> {
      refused("blame()", FarCandles::blame, NOT);
      refused("odd(NONE)", x -> x.odd(NONE), NOT);
      refused("blind(5)", x -> x.blind(5), NOT);
      refused("delay(9, 1, 1)", x -> x.delay(9, 1, 1), NOT);
    });
    D.said("Terms: What is refused changes nothing: a quarrel, and a fault of the latest text");
    on(RefusedTest::quarrel, () -> {
      for (int what = 0; what < 2; what++) {
        int w = what;
        refused("ends(0, NONE, " + w + ")", x -> x.ends(0, NONE, w), QUARREL);
        refused("between(0, 1, " + w + ")", x -> x.between(0, 1, w), QUARREL);
        refused("lead(0, " + w + ", NONE)", x -> x.lead(0, w, NONE), QUARREL);
      }
      refused("worth(0, 0)", x -> x.worth(0, 0), QUARREL);
      refused("boxes(0)", x -> x.boxes(0), QUARREL);
      refused("box(1)", x -> x.box(1), QUARREL);
      refused("delay(0, 1, 1)", x -> x.delay(0, 1, 1), QUARREL);
      refused("claim(0, 0)", x -> x.claim(0, 0), QUARREL);
      refused("redo()", FarCandles::redo, NOT);
      refused("open()", FarCandles::open, NOT);
    });
    D.said("Terms: What is refused changes nothing: all that can be told");
    on(RefusedTest::full, () -> {
      refused("light", x -> x.light(0, 0, 0, 0, 0, 0, 0), FULL);
      refused("shift", x -> x.shift(0, 0, 0, 0), FULL);
      refused("anchor", x -> x.anchor(0, 0, 0, 0), FULL);
      for (int n = 1; n <= 8; n++) {
        int bytes = n;
        refused("feed(" + n + ", ..)", x -> x.feed(bytes, 0x3b3b3b3b3b3b3b3bL), FULL);
      }
      refused("blind(5)", x -> x.blind(5), NOT);
      refused("open()", FarCandles::open, NOT);
    });
    D.end();
  }

  private static void refused(String name, ToLongFunction<FarCandles> ask, long refusal) {
    CALLS.add(new Call(name, ask, refusal));
  }

  private static void asked(String name, ToLongFunction<FarCandles> ask) {
    CALLS.add(new Call(name, ask, null));
  }

  /** Makes each call in the state, and all of them in a row. */
  private static void on(Supplier<FarCandles> state, Runnable more) {
    CALLS.clear();
    always();
    questions();
    more.run();
    List<String> due = Portrait.of(state);
    for (Call call : CALLS) {
      alike(call.name, due, Portrait.of(() -> {
        FarCandles x = state.get();
        make(call, x);
        return x;
      }));
    }
    // In rows of sixty, so that no object has more than 512 calls.
    for (int from = 0; from < CALLS.size(); from += 60) {
      List<Call> row = CALLS.subList(from, Math.min(from + 60, CALLS.size()));
      alike("the row from " + from, due, Portrait.of(() -> {
        FarCandles x = state.get();
        row.forEach(call -> make(call, x));
        return x;
      }));
    }
  }

  private static void make(Call call, FarCandles x) {
    long answer = call.ask.applyAsLong(x);
    if (call.refusal != null) {
      D.due(call.name, answer, call.refusal);
    }
  }

  private static void alike(String name, List<String> due, List<String> got) {
    for (int n = 0; n < due.size(); n++) {
      boolean same = due.get(n).equals(got.get(n));
      D.due(same ? name : "behind " + name + ": " + got.get(n) + " for " + due.get(n), same);
    }
  }

  /** What is refused in whatever state: numbers that there are not, or out of their bounds. */
  private static void always() {
    refused("light by list 6", x -> x.light(6, 0, 0, 0, 0, 0, 0), UNKNOWN);
    refused("light of sort -1", x -> x.light(0, -1, 0, 0, 0, 0, 0), UNKNOWN);
    refused("light of home 10", x -> x.light(0, 0, 10, 0, 0, 0, 0), UNKNOWN);
    refused("light of m 30001", x -> x.light(0, 0, 0, 30001, 0, 0, 0), OUTSIDE);
    refused("light of e 1000", x -> x.light(0, 0, 0, 0, 1000, 0, 0), OUTSIDE);
    refused("light of x -1", x -> x.light(0, 0, 0, 0, 0, -1, 0), OUTSIDE);
    refused("light of c -501", x -> x.light(0, 0, 0, 0, 0, 0, -501), OUTSIDE);
    refused("shift by list -1", x -> x.shift(-1, 0, 0, 0), UNKNOWN);
    refused("shift of home 10", x -> x.shift(0, 10, 0, 0), UNKNOWN);
    refused("shift of u -40001", x -> x.shift(0, 0, -40001, 0), OUTSIDE);
    refused("shift of v 40001", x -> x.shift(0, 0, 0, 40001), OUTSIDE);
    refused("shift of v below u", x -> x.shift(0, 0, 1, 0), OUTSIDE);
    refused("anchor by list 6", x -> x.anchor(6, 0, 0, 0), UNKNOWN);
    refused("anchor of sort 6", x -> x.anchor(0, 6, 0, 0), UNKNOWN);
    refused("anchor of u -40001", x -> x.anchor(0, 0, -40001, 0), OUTSIDE);
    refused("anchor of v below u", x -> x.anchor(0, 0, 1, 0), OUTSIDE);
    refused("redden of home 10", x -> x.redden(10, 1, 2), UNKNOWN);
    refused("redden of p -1", x -> x.redden(1, -1, 2), OUTSIDE);
    refused("redden of q 2001", x -> x.redden(1, 1, 2001), OUTSIDE);
    refused("redden of q below p", x -> x.redden(1, 2, 1), OUTSIDE);
    refused("redness of home -1", x -> x.redness(-1, 5), UNKNOWN);
    refused("redness of -2", x -> x.redness(1, -2), OUTSIDE);
    refused("redness of 100000", x -> x.redness(1, 100000), OUTSIDE);
    refused("leave(80, true)", x -> x.leave(80, true), UNKNOWN);
    refused("leave(-1, true)", x -> x.leave(-1, true), UNKNOWN);
    refused("leave(MIN, false)", x -> x.leave(MIN, false), UNKNOWN);
    refused("told(80, 0)", x -> x.told(80, 0), UNKNOWN);
    refused("told(-1, 7)", x -> x.told(-1, 7), UNKNOWN);
    refused("count(9)", x -> x.count(9), OUTSIDE);
    refused("count(MIN)", x -> x.count(MIN), OUTSIDE);
    refused("feed(0, ..)", x -> x.feed(0, 0x3b3b3b3bL), OUTSIDE);
    refused("feed(9, ..)", x -> x.feed(9, 0x3b3b3b3bL), OUTSIDE);
    refused("feed(MIN, ..)", x -> x.feed(MIN, 0x3b3b3b3bL), OUTSIDE);
    refused("rule(0, 6)", x -> x.rule(0, 6), UNKNOWN);
    refused("rule(6, -1)", x -> x.rule(6, -1), UNKNOWN);
    refused("rule(8, 0)", x -> x.rule(8, 0), OUTSIDE);
    refusedOfTheNet();
    refused("blind(1000)", x -> x.blind(1000), OUTSIDE);
    refused("blind(-1000)", x -> x.blind(-1000), OUTSIDE);
    refused("claim(8, 0)", x -> x.claim(8, 0), UNKNOWN);
    refused("claim(-1, 4)", x -> x.claim(-1, 4), UNKNOWN);
  }

  private static void refusedOfTheNet() {
    refused("ends(10, NONE, 0)", x -> x.ends(10, NONE, 0), UNKNOWN);
    refused("ends(0, 81, 0)", x -> x.ends(0, 81, 0), OUTSIDE);
    refused("ends(0, -2, 0)", x -> x.ends(0, -2, 0), OUTSIDE);
    refused("ends(0, NONE, 2)", x -> x.ends(0, NONE, 2), OUTSIDE);
    refused("between(-1, 0, 0)", x -> x.between(-1, 0, 0), UNKNOWN);
    refused("between(0, 10, 0)", x -> x.between(0, 10, 0), UNKNOWN);
    refused("between(0, 1, 2)", x -> x.between(0, 1, 2), OUTSIDE);
    refused("widening(81)", x -> x.widening(81), OUTSIDE);
    refused("widening(-2)", x -> x.widening(-2), OUTSIDE);
    refused("worth(6, 0)", x -> x.worth(6, 0), UNKNOWN);
    refused("worth(0, 10)", x -> x.worth(0, 10), UNKNOWN);
    refused("lead(10, 0, 0)", x -> x.lead(10, 0, 0), UNKNOWN);
    refused("lead(0, 2, 0)", x -> x.lead(0, 2, 0), OUTSIDE);
    refused("steps(10)", x -> x.steps(10), UNKNOWN);
    refused("far(40001, 0)", x -> x.far(40001, 0), OUTSIDE);
    refused("far(-1, 0)", x -> x.far(-1, 0), OUTSIDE);
    refused("far(0, 2)", x -> x.far(0, 2), OUTSIDE);
    refused("boxes(4)", x -> x.boxes(4), OUTSIDE);
    refused("box(0)", x -> x.box(0), OUTSIDE);
    refused("box(201)", x -> x.box(201), OUTSIDE);
    refused("delay(10, 1, 1)", x -> x.delay(10, 1, 1), UNKNOWN);
    refused("delay(0, 0, 1)", x -> x.delay(0, 0, 1), OUTSIDE);
    refused("delay(0, 2, 1)", x -> x.delay(0, 2, 1), OUTSIDE);
  }

  /** Questions change nothing either, whatever they answer. */
  private static void questions() {
    asked("told(0, 5)", x -> x.told(0, 5));
    asked("count(4)", x -> x.count(4));
    asked("fault()", FarCandles::fault);
    asked("rule(0, 0)", x -> x.rule(0, 0));
    asked("ends(1, NONE, 0)", x -> x.ends(1, NONE, 0));
    asked("ends(1, 0, 1)", x -> x.ends(1, 0, 1));
    asked("between(0, 1, 0)", x -> x.between(0, 1, 0));
    asked("widening(NONE)", x -> x.widening(NONE));
    asked("widening(0)", x -> x.widening(0));
    asked("blame()", FarCandles::blame);
    asked("odd(NONE)", x -> x.odd(NONE));
    asked("odd(MAX)", x -> x.odd(MAX));
    asked("worth(0, 1)", x -> x.worth(0, 1));
    asked("lead(1, 0, NONE)", x -> x.lead(1, 0, NONE));
    asked("lead(1, 1, MIN)", x -> x.lead(1, 1, MIN));
    asked("steps(1)", x -> x.steps(1));
    asked("far(150, 1)", x -> x.far(150, 1));
    asked("boxes(0)", x -> x.boxes(0));
    asked("box(70)", x -> x.box(70));
    asked("delay(1, 1, 1)", x -> x.delay(1, 1, 1));
    asked("claim(0, 0)", x -> x.claim(0, 0));
  }

  /** Tellings of all kinds, one left out, two undone; rules, a text half fed, hidden, rednesses. */
  private static FarCandles some() {
    FarCandles x = Due.ruled("sort 0 time -3 to 4 colour 5 to 6;dust 3 to 9;blur 1 by 2;own 7;claim 0 above 8;claim 1 below 9;");
    tellSome(x);
    x.leave(3, true);
    x.undo();
    x.undo();
    Due.feed(x, "blur 2 by 3;own 1");
    x.blind(-77);
    x.redness(0, 80);
    x.redness(1, 90);
    x.redden(1, 3, 5);
    return x;
  }

  private static void tellSome(FarCandles x) {
    x.shift(0, 0, 1000, 1100);
    x.light(1, 0, 0, 2000, 5, 100, -100);
    x.light(2, 0, 1, 2500, 5, 200, 300);
    x.light(3, 1, 1, 2400, 9, 0, 0);
    x.light(1, 1, 2, 2900, 9, 0, 0);
    x.anchor(4, 0, 0, 5000);
    x.shift(5, 1, 0, 9000);
    x.anchor(5, 5, -5, 5);
    x.shift(0, 3, 40, 50);
    x.shift(0, 3, 30, 45);
  }

  private static FarCandles quarrel() {
    FarCandles x = Due.ruled("blur 1 by 2;own 7;claim 0 above 8;");
    tellSome(x);
    x.undo();
    x.shift(2, 3, 60, 70);
    x.shift(1, 0, 0, 10);
    x.redness(3, 70);
    Due.read(x, "own 10000;");
    return x;
  }

  /** Eighty tellings of which two are undone, a text of 240 bytes, eight claims, hidden opened. */
  private static FarCandles full() {
    FarCandles x = Due.ruled("claim0above5;".repeat(8) + "own 3;");
    tellSome(x);
    for (int i = 10; i < 80; i++) {
      x.light(i % 6, i % 5, i % 10, 2000 + i, 999, i, -i);
    }
    x.undo();
    x.undo();
    x.leave(7, true);
    Due.feed(x, " ".repeat(234) + "own 9;");
    x.blind(99);
    x.open();
    return x;
  }
}
