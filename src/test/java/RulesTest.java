import java.nio.charset.StandardCharsets;

/** Promises 12 to 15: feeding a text, reading it, its faults, and what it rules. */
public final class RulesTest {
  private static final Due D = new Due();

  public static void main(String[] args) {
    feed();
    read();
    asAtFirst();
    nothingBehindTheText();
    forms();
    cannotStand();
    badNumbers();
    bounds();
    tooMany();
    firstFault();
    refusedChangesNothing();
    rule();
    D.end();
  }

  private static void feed() {
    FarCandles x = new FarCandles();
    D.due("no byte", x.feed(0, 0L), FarCandles.OUTSIDE);
    D.due("nine bytes", x.feed(9, 0L), FarCandles.OUTSIDE);
    D.due("none", x.feed(Integer.MIN_VALUE, 0L), FarCandles.OUTSIDE);
    D.due("nothing came", x.count(6), 0);
    // "own 7;" with bytes above it that do not count.
    long own = Due.asLong("xown 7;".getBytes(StandardCharsets.ISO_8859_1), 0, 7);
    D.due("six of seven bytes", x.feed(6, own), 6);
    D.due("read", x.read(), 1);
    D.due("own", x.rule(7, 0), 7);
    for (int k = 1; k <= 29; k++) {
      D.due("blanks", x.feed(8, 0x2020202020202020L), 8 * k);
    }
    D.due("blanks", x.feed(7, 0x20202020202020L), 239);
    D.due("two bytes are too many", x.feed(2, 0x2020L), FarCandles.FULL);
    D.due("OUTSIDE is ahead of FULL", x.feed(9, 0L), FarCandles.OUTSIDE);
    D.due("the last byte", x.feed(1, 0x20L), 240);
    D.due("one more", x.feed(1, 0x20L), FarCandles.FULL);
    D.due("240 bytes", x.count(6), 240);
    D.due("read blanks", x.read(), 0);
    D.due("empty then", x.count(6), 0);
    D.due("own as at first", x.rule(7, 0), 0);
    D.due("a negative long", x.feed(8, -1L), 8);
    D.due("bytes 255 cannot stand", x.read(), -11);
    D.due("at 0", x.fault(), 0);
  }

  private static void read() {
    FarCandles x = new FarCandles();
    D.due("an empty text", x.read(), 0);
    D.due("no fault", x.fault(), FarCandles.NONE);
    D.due("one clause", Due.read(x, "own 5;"), 1);
    D.due("like clauses", Due.read(x, "own 6;own 7;blur 0 by 1;blur 1 by 2;blur 0 by 3;"), 5);
    D.due("the last rules", x.rule(7, 0), 7);
    D.due("the last rules", x.rule(6, 0), 3);
    D.due("another list's", x.rule(6, 1), 2);
    D.due("sorts", Due.read(x, "sort 2 time 1 to 2 colour 3 to 4;sort 2 time 5 to 6 colour -8 to -7;"), 2);
    D.due("time least", x.rule(0, 2), 5);
    D.due("time greatest", x.rule(1, 2), 6);
    D.due("colour least", x.rule(2, 2), -8);
    D.due("colour greatest", x.rule(3, 2), -7);
    D.due("what is not told is as at first", x.rule(7, 0), 0);
    D.due("what is not told is as at first", x.rule(6, 0), 0);
    D.due("claims", Due.read(x, "claim 1 above 2;claim 1 above 2;"), 2);
    D.due("all claims count", x.count(5), 2);
    D.due("sorts as at first", x.rule(0, 2), 0);
    D.due("a fault", Due.read(x, "own;"), -11);
    D.due("a fault", x.fault(), 3);
    D.due("an empty text", x.read(), 0);
    D.due("no fault of the latest read", x.fault(), FarCandles.NONE);
    D.due("claims are gone", x.count(5), 0);
  }

  /** Nothing of an older text is left, be it the latest one or the one ahead of that. */
  private static void asAtFirst() {
    FarCandles x = new FarCandles();
    String all = "own 5;dust 1 to 2;blur 0 by 3;blur 5 by 4;claim 1 above 2;claim 3 above 4;";
    String sorts = "sort 0 time 1 to 2 colour 3 to 4;sort 5 time 5 to 6 colour 7 to 8;";
    for (int round = 0; round < 3; round++) {
      D.due("all", Due.read(x, all + sorts), 8);
      D.due("all again", Due.read(x, all + sorts), 8);
      D.due("none", Due.read(x, round == 1 ? " " : ""), 0);
      for (int what = 0; what < 4; what++) {
        D.due("law of sort 0", x.rule(what, 0), 0);
        D.due("law of sort 5", x.rule(what, 5), 0);
      }
      D.due("dust", x.rule(4, 0), 31);
      D.due("dust", x.rule(5, 0), 31);
      D.due("blur", x.rule(6, 0), 0);
      D.due("blur", x.rule(6, 5), 0);
      D.due("own", x.rule(7, 0), 0);
      D.due("claims", x.count(5), 0);
    }
    D.due("all, with a fault", Due.read(x, all + sorts + "x"), -11);
    D.due("one claim", Due.read(x, "claim 9 below 9;"), 1);
    D.due("one claim", x.count(5), 1);
    D.due("its home", x.claim(0, 1), 9);
    D.due("law of sort 0", x.rule(0, 0), 0);
  }

  /** What an older and longer text had behind the end of this one does not count. */
  private static void nothingBehindTheText() {
    FarCandles x = new FarCandles();
    D.due("the older one", Due.read(x, "own 5;"), 1);
    D.due("no ';'", Due.read(x, "own 5"), -11);
    D.due("at its end", x.fault(), 5);
    D.due("the older one", Due.read(x, "own 123456;"), -12);
    D.due("five figures", Due.read(x, "own 12345"), -12);
    D.due("six figures", Due.read(x, "own 123456"), -12);
    D.due("three figures", Due.read(x, "own 123"), -11);
    D.due("at its end", x.fault(), 7);
    D.due("the older one", Due.read(x, "claim 1 above 2;"), 1);
    D.due("half a word", Due.read(x, "claim 1 abo"), -11);
    D.due("at its first letter", x.fault(), 8);
    String full = "own 5;" + " ".repeat(233);
    D.due("a figure as the last of 240 bytes", Due.read(x, full + "7"), -11);
    D.due("a full text ends within a number", Due.read(x, " ".repeat(235) + "own 7"), -11);
    D.due("at its end", x.fault(), 240);
    D.due("a full text ends within a word", Due.read(x, " ".repeat(237) + "own"), -11);
    D.due("at its end", x.fault(), 240);
    D.due("a full text", Due.read(x, " ".repeat(234) + "own 7;"), 1);
  }

  private static void forms() {
    D.dueText("sort0time-30to-20colour5to7;", 1, -1);
    D.dueText("  sort  0  time  -30  to  -20  colour  5  to  7  ;  ", 1, -1);
    D.dueText("dust0to99;own9999;blur5by999;claim9below-40000;claim0above40000;", 5, -1);
    D.dueText("own 00007;", 1, -1);
    D.dueText("claim 0 above -0;", 1, -1);
    D.dueText("claim 0 above -00000;", 1, -1);
    D.dueText("sort 5 time -9999 to 9999 colour -9999 to 9999;", 1, -1);
    D.dueText("dust 5 to 5;", 1, -1);
    D.dueText("own 0;blur 0 by 0;dust 0 to 0;claim 0 above 0;sort 0 time 0 to 0 colour 0 to 0;", 5, -1);
    FarCandles x = new FarCandles();
    Due.read(x, "claim 9 below -40000;claim 0 above 00012 ;");
    D.due("home", x.claim(0, 1), 9);
    D.due("M", x.claim(0, 2), -40000);
    D.due("below", x.claim(0, 3), 0);
    D.due("M", x.claim(1, 2), 12);
    D.due("above", x.claim(1, 3), 1);
  }

  private static void cannotStand() {
    D.dueText(";", -11, 0);
    D.dueText("own 5;;", -11, 6);
    D.dueText("5", -11, 0);
    D.dueText("-", -11, 0);
    D.dueText("owns 5;", -11, 0);
    D.dueText("owna 5;", -11, 0);
    D.dueText("ownz 5;", -11, 0);
    D.dueText("ow n 5;", -11, 0);
    D.dueText("Own 5;", -11, 0);
    D.dueText("ownN 5;", -11, 3);
    D.dueText("time 5;", -11, 0);
    D.dueText("own", -11, 3);
    D.dueText("own   ", -11, 6);
    D.dueText("own 5", -11, 5);
    D.dueText("own 5  ", -11, 7);
    D.dueText("own ;", -11, 4);
    D.dueText("own -5;", -11, 4);
    D.dueText("own x;", -11, 4);
    D.dueText("own 5 6;", -11, 6);
    D.dueText("own 5-6;", -11, 5);
    D.dueText("own 5 own 6;", -11, 6);
    D.dueText("own 5 to 6;", -11, 6);
    D.dueText("own 5.;", -11, 5);
    D.dueText("own\t5;", -11, 3);
    D.dueText("own 5\n;", -11, 5);
    D.dueText("own 5;\u00e9", -11, 6);
    D.dueText("dust 5 too 6;", -11, 7);
    D.dueText("dust 5 t o 6;", -11, 7);
    D.dueText("dust 5 6;", -11, 7);
    D.dueText("dust 5 to -6;", -11, 10);
    D.dueText("dust 5 by 6;", -11, 7);
    D.dueText("blur 0 to 6;", -11, 7);
    D.dueText("blur 0 by;", -11, 9);
    D.dueText("blur -0 by 1;", -11, 5);
    D.dueText("claim 1 over 5;", -11, 8);
    D.dueText("claim 1 abovebelow 5;", -11, 8);
    D.dueText("claim 1 above below 5;", -11, 14);
    D.dueText("claim above 5;", -11, 6);
    D.dueText("claim 1 above - 5;", -11, 15);
    D.dueText("claim 1 above -;", -11, 15);
    D.dueText("claim 1 above -", -11, 15);
    D.dueText("claim 1 above --5;", -11, 15);
    D.dueText("claim 1 above -x;", -11, 15);
    D.dueText("claim 1 above 5 -;", -11, 16);
    D.dueText("claim 1 above +5;", -11, 14);
    D.dueText("claim -1 above 5;", -11, 6);
    D.dueText("sort 0 colour 1 to 2;", -11, 7);
    D.dueText("sort 0 time 1 to 2;", -11, 18);
    D.dueText("sort 0 time 1 to 2 colour 3;", -11, 27);
    D.dueText("sort 0 time 1 to 2 colour 3 to 4", -11, 32);
    D.dueText("sort 0 time 1 to 2 colour 3 to 4 5;", -11, 33);
    D.dueText("sort -0 time 1 to 2 colour 3 to 4;", -11, 5);
  }

  private static void badNumbers() {
    D.dueText("own 123456;", -12, 4);
    D.dueText("own 000001;", -12, 4);
    D.dueText("own 99999999999999999999999999;", -12, 4);
    D.dueText("own 4294967296", -12, 4);
    D.dueText("claim 1 above -123456;", -12, 14);
    D.dueText("claim 1 above -000000;", -12, 14);
    D.dueText("own 5 123456;", -11, 6);
    D.dueText("own -123456;", -11, 4);
    D.dueText("123456", -11, 0);
    D.dueText("own 10000", -12, 4);
  }

  private static void bounds() {
    D.dueText("own 10000;", -12, 4);
    D.dueText("sort 6 time 1 to 2 colour 3 to 4;", -12, 5);
    D.dueText("sort 0 time 10000 to 2 colour 3 to 4;", -12, 12);
    D.dueText("sort 0 time -10000 to 2 colour 3 to 4;", -12, 12);
    D.dueText("sort 0 time 1 to 10000 colour 3 to 4;", -12, 17);
    D.dueText("sort 0 time 1 to 0 colour 3 to 4;", -12, 17);
    D.dueText("sort 0 time -1 to -2 colour 3 to 4;", -12, 18);
    D.dueText("sort 0 time 1 to 2 colour 10000 to 4;", -12, 26);
    D.dueText("sort 0 time 1 to 2 colour -10000 to 4;", -12, 26);
    D.dueText("sort 0 time 1 to 2 colour 3 to 10000;", -12, 31);
    D.dueText("sort 0 time 1 to 2 colour 3 to 2;", -12, 31);
    D.dueText("sort 0 time 5 to 6 colour 3 to 4;", 1, -1);
    D.dueText("dust 100 to 100;", -12, 5);
    D.dueText("dust 1 to 100;", -12, 10);
    D.dueText("dust 9 to 8;", -12, 10);
    D.dueText("blur 6 by 1;", -12, 5);
    D.dueText("blur 5 by 1000;", -12, 10);
    D.dueText("claim 10 above 1;", -12, 6);
    D.dueText("claim 1 above 40001;", -12, 14);
    D.dueText("claim 1 below -40001;", -12, 14);
    D.dueText("claim 1 below -40000;", 1, -1);
  }

  private static void tooMany() {
    String claims = "claim1above2;".repeat(8);
    D.dueText(claims, 8, -1);
    D.dueText(claims + "own 5;", 9, -1);
    D.dueText(claims + " claim", -13, 105);
    D.dueText(claims + "claims 1 above 2;", -11, 104);
    D.dueText(claims + "own 5; claim 99999999;", -13, 111);
    String twenty = "own5;".repeat(20);
    D.dueText(twenty, 20, -1);
    D.dueText(twenty + "   ", 20, -1);
    D.dueText(twenty + " own5;", -14, 101);
    D.dueText(twenty + "dust", -14, 100);
    D.dueText(twenty + "claim", -14, 100);
    D.dueText(twenty + "foo", -11, 100);
    D.dueText(twenty + "7", -11, 100);
    D.dueText(twenty + ";", -11, 100);
    D.dueText(claims + "own5;".repeat(12), 20, -1);
    D.dueText(claims + "own5;".repeat(12) + "claim", -13, 164);
    D.dueText(claims + "own5;".repeat(12) + "own", -14, 164);
  }

  private static void firstFault() {
    D.dueText("own 99999; foo", -12, 4);
    D.dueText("foo own 99999;", -11, 0);
    D.dueText("own 123456 7", -12, 4);
    D.dueText("own 10000x", -12, 4);
  }

  private static void refusedChangesNothing() {
    FarCandles x = new FarCandles();
    Due.read(x, "own 5;dust 1 to 2;blur 3 by 4;sort 1 time 2 to 3 colour 4 to 5;claim 6 above 7;");
    D.due("a fault behind good clauses",
        Due.read(x, "own 6;dust 3 to 4;blur 3 by 9;sort 1 time 7 to 8 colour 9 to 10;claim 1 below 2;claim 2 above 3;!"), -11);
    int[] wants = {2, 3, 4, 5};
    for (int what = 0; what < 4; what++) {
      D.due("law as it was", x.rule(what, 1), wants[what]);
    }
    D.due("dust as it was", x.rule(4, 0), 1);
    D.due("dust as it was", x.rule(5, 0), 2);
    D.due("blur as it was", x.rule(6, 3), 4);
    D.due("own as it was", x.rule(7, 0), 5);
    D.due("claims as they were", x.count(5), 1);
    D.due("claim as it was", x.claim(0, 1), 6);
    D.due("the text is empty", x.count(6), 0);
    D.due("a good one", Due.read(x, "own 8;"), 1);
    D.due("own", x.rule(7, 0), 8);
    D.due("blur as at first", x.rule(6, 3), 0);
    D.due("feeding changes no rule", x.rule(4, 0), 31);
  }

  private static void rule() {
    FarCandles x = new FarCandles();
    Due.read(x, "sort 0 time 1 to 2 colour 3 to 4;sort 5 time 5 to 6 colour 7 to 8;dust 9 to 10;blur 0 by 11;blur 5 by 12;own 13;");
    int[][] wants = {{1, 2, 3, 4, 9, 10, 11, 13}, {0, 0, 0, 0, 9, 10, 0, 13}, {5, 6, 7, 8, 9, 10, 12, 13}};
    int[] ranks = {0, 1, 5};
    for (int n = 0; n < ranks.length; n++) {
      for (int what = 0; what < 8; what++) {
        D.due("rule(" + what + ", " + ranks[n] + ")", x.rule(what, ranks[n]), wants[n][what]);
      }
    }
    for (int i : new int[] {-1, 6, Integer.MIN_VALUE, Integer.MAX_VALUE}) {
      for (int what : new int[] {0, 1, 2, 3, 6}) {
        D.due("no sort or list " + i, x.rule(what, i), FarCandles.UNKNOWN);
      }
      D.due("dust needs none", x.rule(4, i), 9);
      D.due("dust needs none", x.rule(5, i), 10);
      D.due("own needs none", x.rule(7, i), 13);
      D.due("no such what", x.rule(8, i), FarCandles.OUTSIDE);
      D.due("no such what", x.rule(-1, i), FarCandles.OUTSIDE);
    }
  }
}
