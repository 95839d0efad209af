import java.util.ArrayList;
import java.util.List;
import java.util.function.Supplier;

/**
 * All that an object in some state answers, the state of every part of it among that. It takes
 * several sittings, each with an object of its own, since one object has but 512 calls.
 */
final class Portrait {
  private static final int NONE = FarCandles.NONE;

  private final List<String> lines = new ArrayList<>();
  private FarCandles x;

  private Portrait() {
  }

  /** One line for each call, with its answer. The maker may use 150 calls. */
  static List<String> of(Supplier<FarCandles> maker) {
    Portrait p = new Portrait();
    for (int sitting = 0; sitting < 7; sitting++) {
      p.x = maker.get();
      p.sit(sitting);
    }
    return p.lines;
  }

  private void line(String call, long answer) {
    lines.add(call + " answers " + answer);
  }

  private void sit(int sitting) {
    switch (sitting) {
      case 0 -> tellings(0, 40);
      case 1 -> tellings(40, 80);
      case 2 -> rulesAndCounts();
      case 3 -> net();
      case 4 -> between();
      case 5 -> undoneAndLeft();
      default -> hiddenParts();
    }
  }

  private void tellings(int from, int to) {
    for (int i = from; i < to; i++) {
      for (int what = 0; what < 7; what++) {
        line("told(" + i + ", " + what + ")", x.told(i, what));
      }
    }
  }

  private void rulesAndCounts() {
    for (int what = 0; what < 9; what++) {
      line("count(" + what + ")", x.count(what));
    }
    line("fault()", x.fault());
    for (int what = 0; what < 8; what++) {
      for (int i = 0; i < 6; i++) {
        line("rule(" + what + ", " + i + ")", x.rule(what, i));
      }
    }
    for (int i = 0; i < 9; i++) {
      for (int what = 0; what < 4; what++) {
        line("claim(" + i + ", " + what + ")", x.claim(i, what));
      }
    }
    for (int what = 0; what < 4; what++) {
      line("boxes(" + what + ")", x.boxes(what));
    }
    for (int g = 1; g <= 200; g += 9) {
      line("box(" + g + ")", x.box(g));
    }
    for (int home = 0; home < 10; home++) {
      line("delay(" + home + ", 1, 1)", x.delay(home, 1, 1));
      line("delay(" + home + ", 2000000000, 2000000000)", x.delay(home, 2000000000, 2000000000));
    }
  }

  private void net() {
    line("widening(NONE)", x.widening(NONE));
    line("blame()", x.blame());
    for (int i = NONE; i < 3; i++) {
      line("odd(" + i + ")", x.odd(i));
    }
    for (int k = 0; k <= 80; k += 7) {
      line("widening(" + k + ")", x.widening(k));
    }
    for (int home = 0; home < 10; home++) {
      line("steps(" + home + ")", x.steps(home));
      for (int what = 0; what < 2; what++) {
        line("ends(" + home + ", NONE, " + what + ")", x.ends(home, NONE, what));
        line("ends(" + home + ", 3, " + what + ")", x.ends(home, 3, what));
        line("lead(" + home + ", " + what + ", NONE)", x.lead(home, what, NONE));
        line("lead(" + home + ", " + what + ", 0)", x.lead(home, what, 0));
      }
      for (int list = 0; list < 6; list++) {
        line("worth(" + list + ", " + home + ")", x.worth(list, home));
      }
    }
  }

  private void between() {
    for (int g = 0; g < 10; g++) {
      for (int h = 0; h < 10; h++) {
        line("between(" + g + ", " + h + ", 0)", x.between(g, h, 0));
        line("between(" + g + ", " + h + ", 1)", x.between(g, h, 1));
      }
    }
  }

  /** Which tellings are left out, and in which order they were undone and would be put back. */
  private void undoneAndLeft() {
    for (int i = 0; i <= 80; i++) {
      line("leave(" + i + ", false)", x.leave(i, false));
    }
    for (int n = 0; n <= 80; n++) {
      line("redo() " + n, x.redo());
    }
    for (int n = 0; n <= 80; n++) {
      line("undo() " + n, x.undo());
    }
  }

  /** What can only be seen by changing it: redness, the text, the hidden number, reddening. */
  private void hiddenParts() {
    for (int home = 0; home < 10; home++) {
      line("redness(" + home + ", NONE)", x.redness(home, NONE));
    }
    // "7;" makes a number and a clause of what an unread text may end with.
    line("feed(2, \"7;\")", x.feed(2, 0x373bL));
    line("count(6)", x.count(6));
    line("read()", x.read());
    line("fault()", x.fault());
    line("rule(7, 0)", x.rule(7, 0));
    line("blind(5)", x.blind(5));
    line("open()", x.open());
    line("blind(6)", x.blind(6));
    line("open()", x.open());
    for (int home = 0; home < 10; home++) {
      int i = x.light(0, 0, home, 0, 0, 0, 0);
      line("light in " + home, i);
      line("its low", x.told(i, 5));
      line("its high", x.told(i, 6));
      line("shift", x.shift(0, home, 0, 0));
      line("anchor", x.anchor(0, 5, 0, 0));
    }
  }
}
