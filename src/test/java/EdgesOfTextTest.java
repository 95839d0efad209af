import java.util.function.ToLongFunction;

/** Part 2 and promises 12 to 15: each sentence that names a bound or a fault, at that bound. */
public final class EdgesOfTextTest {
  private static final Due D = new Due();
  private static final int NONE = FarCandles.NONE, UNKNOWN = FarCandles.UNKNOWN, OUTSIDE = FarCandles.OUTSIDE;
  private static final int FULL = FarCandles.FULL;
  private static final int CANNOT_STAND = -11, BAD_NUMBER = -12, NINTH_CLAIM = -13, TOO_MANY_CLAUSES = -14;
  private static final String ALL =
      "sort 1 time -2 to 3 colour -4 to 5;dust 6 to 7;blur 2 by 8;own 9;claim 3 above -4;claim 5 below 6;";

  public static void main(String[] args) {
    howManyBytes();
    highestFirst();
    textOf240();
    emptyText();
    textIsEmptyThen();
    numbersOfSort();
    numbersOfDust();
    numbersOfBlur();
    numbersOfOwn();
    numbersOfClaim();
    figures();
    minusRightBehind();
    noMinusAheadOfN();
    lettersOfWords();
    blanksAnywhere();
    noBlanksWithin();
    sideBySide();
    noBlankIsNeeded();
    onlyBlanksAreBlank();
    notToldAsAtFirst();
    likeClauses();
    allClaims();
    cutAnywhere();
    anyByteAnywhere();
    endOfText();
    wordThatCannot();
    ninthClaim();
    twentyFirstClause();
    firstByteThatHasOne();
    leastOfThese();
    rulesAsTheyWere();
    latestRead();
    rule();
    D.end();
  }

  private static FarCandles fed(int bytes) {
    FarCandles x = new FarCandles();
    Due.feed(x, " ".repeat(bytes));
    return x;
  }

  private static void howManyBytes() {
    D.said("Promise 12: Up to eight bytes (n 1 .. 8) .. OUTSIDE");
    D.edges("feed's n", 1, 8, OUTSIDE, n -> new FarCandles().feed(n, 0x2020202020202020L), n -> n);
    for (int n = 1; n <= 8; n++) {
      D.due("how many it has", fed(3).feed(n, 0L), 3 + n);
    }
  }

  private static void highestFirst() {
    D.said("Promise 12: of a long, the highest of these first, come behind THE TEXT");
    String text = "own 123;";
    for (int n = 1; n <= 8; n++) {
      FarCandles x = new FarCandles();
      Due.feed(x, text.substring(0, 8 - n));
      // What stands above the n bytes does not count, be it 255 or 0.
      long above = n == 8 ? 0 : -1L << 8 * n;
      long bytes = 0x6f776e203132333bL & (n == 8 ? -1L : (1L << 8 * n) - 1);
      D.due("feed of the last " + n, x.feed(n, above | bytes), 8);
      D.due("read", x.read(), 1);
      D.due("own", x.rule(7, 0), 123);
    }
    for (long bytes : new long[] {-1L, 0L, Long.MIN_VALUE, Long.MAX_VALUE}) {
      FarCandles x = new FarCandles();
      D.due("feed of " + bytes, x.feed(8, bytes), 8);
      D.due("read", x.read(), CANNOT_STAND);
      D.due("at 0", x.fault(), 0);
    }
  }

  private static void textOf240() {
    D.said("2: RULES are a text (240 bytes at most); promise 12: FULL");
    for (int n = 1; n <= 8; n++) {
      D.due("up to 240 by " + n, fed(240 - n).feed(n, 0x2020202020202020L), 240);
      D.due("up to 241 by " + n, fed(241 - n).feed(n, 0x2020202020202020L), FULL);
      D.due("beyond 240 by " + n, fed(240).feed(n, 0x2020202020202020L), FULL);
      FarCandles x = fed(241 - n);
      x.feed(n, 0x3b3b3b3b3b3b3b3bL);
      D.due("none of the " + n + " came", x.count(6), 241 - n);
      D.due("none of the " + n + " is read", x.read(), 0);
      D.due("afterwards there is room", x.feed(8, 0x2020202020202020L), 8);
    }
    D.dueText(" ".repeat(234) + "own 5;", 1, NONE);
    D.dueText("own 5;" + " ".repeat(234), 1, NONE);
    D.dueText(" ".repeat(235) + "own 5", CANNOT_STAND, 240);
    D.dueText("own 5;" + " ".repeat(233) + "!", CANNOT_STAND, 239);
    D.dueText("claim 1 above 2" + " ".repeat(224) + ";", 1, NONE);
  }

  private static void emptyText() {
    D.said("Promise 13: how many clauses, of a text that has none");
    D.dueText("", 0, NONE);
    D.dueText(" ", 0, NONE);
    D.dueText(" ".repeat(240), 0, NONE);
  }

  private static void textIsEmptyThen() {
    D.said("Promise 13: THE TEXT (it is empty then)");
    for (String text : new String[] {"", "own 5;", "own 5", "own 99999;", "x", " ".repeat(240)}) {
      FarCandles x = new FarCandles();
      Due.read(x, text);
      D.due("bytes behind \"" + text + "\"", x.count(6), 0);
      D.due("a new one", Due.read(x, "own 6;"), 1);
      D.due("its own", x.rule(7, 0), 6);
    }
  }

  /** A number of a text at both its bounds, with as many figures as it may have, and beyond. */
  private static void slot(String ahead, int least, int greatest, String behind, ToLongFunction<FarCandles> ask) {
    boolean signed = ahead.matches(".*(time|colour|above|below) ?(-?[0-9]+ to )?");
    for (int n : new int[] {least, Math.min(least + 1, greatest), Math.max(greatest - 1, least), greatest}) {
      FarCandles x = new FarCandles();
      D.due("read \"" + ahead + n + behind + "\"", Due.read(x, ahead + n + behind), 1);
      D.due("no fault", x.fault(), NONE);
      D.due("what it made of " + n, ask.applyAsLong(x), n);
      String sign = n < 0 ? "-" : "";
      D.dueText(ahead + sign + padded(n, 5) + behind, 1, NONE);
      D.dueText(ahead + sign + padded(n, 6) + behind, BAD_NUMBER, ahead.length());
    }
    int at = ahead.length();
    D.dueText(ahead + (greatest + 1) + behind, BAD_NUMBER, at);
    D.dueText(ahead + "99999" + behind, BAD_NUMBER, at);
    D.dueText(ahead + "65536" + behind, BAD_NUMBER, at);
    boolean canBeBelow = signed || least > 0;
    D.dueText(ahead + (least - 1) + behind, canBeBelow ? BAD_NUMBER : CANNOT_STAND, at);
    D.dueText(ahead + "-99999" + behind, signed ? BAD_NUMBER : CANNOT_STAND, at);
    D.dueText(ahead + behind, CANNOT_STAND, at + (behind.startsWith(" ") ? 1 : 0));
    D.dueText(ahead, CANNOT_STAND, at);
    D.dueText(ahead + "!" + behind, CANNOT_STAND, at);
  }

  private static String padded(int n, int figures) {
    String bare = "" + Math.abs(n);
    return "0".repeat(figures - bare.length()) + bare;
  }

  private static long sortWithLaw(FarCandles x) {
    for (int sort = 0; sort < 6; sort++) {
      if (x.rule(0, sort) != 0) {
        return sort;
      }
    }
    return NONE;
  }

  private static void numbersOfSort() {
    D.said("2: sort 0 .. 5; time, colour -9999 .. 9999; 'to' not below the one ahead of it");
    slot("sort ", 0, 5, " time 1 to 2 colour 3 to 4;", x -> sortWithLaw(x));
    slot("sort 2 time ", -9999, 9999, " to 9999 colour 3 to 4;", x -> x.rule(0, 2));
    slotAheadOfTo("sort 2 time ", -9999, 7, " to 7 colour 3 to 4;", x -> x.rule(0, 2));
    slotAheadOfTo("sort 2 time 1 to 2 colour ", -9999, -7, " to -7;", x -> x.rule(2, 2));
    slot("sort 2 time -9999 to ", -9999, 9999, " colour 3 to 4;", x -> x.rule(1, 2));
    slot("sort 2 time 7 to ", 7, 9999, " colour 3 to 4;", x -> x.rule(1, 2));
    slot("sort 2 time -7 to ", -7, 9999, " colour 3 to 4;", x -> x.rule(1, 2));
    slot("sort 2 time 9999 to ", 9999, 9999, " colour 3 to 4;", x -> x.rule(1, 2));
    slot("sort 5 time 1 to 2 colour ", -9999, 9999, " to 9999;", x -> x.rule(2, 5));
    slot("sort 0 time 1 to 2 colour -9999 to ", -9999, 9999, ";", x -> x.rule(3, 0));
    slot("sort 0 time 1 to 2 colour 7 to ", 7, 9999, " ;", x -> x.rule(3, 0));
    slot("sort 0 time 1 to 2 colour -7 to ", -7, 9999, ";", x -> x.rule(3, 0));
    slot("sort 0 time 1 to 2 colour 9999 to ", 9999, 9999, ";", x -> x.rule(3, 0));
    // A colour may well lie below the time ahead of it.
    D.dueText("sort 0 time 8 to 9 colour -9 to -8;", 1, NONE);
  }

  /** One more than the last makes the number behind 'to' a bad one, not itself. */
  private static void slotAheadOfTo(String ahead, int least, int last, String behind, ToLongFunction<FarCandles> ask) {
    for (int n : new int[] {least, last}) {
      FarCandles x = new FarCandles();
      D.due("read \"" + ahead + n + behind + "\"", Due.read(x, ahead + n + behind), 1);
      D.due("what it made of " + n, ask.applyAsLong(x), n);
    }
    String over = ahead + (last + 1);
    D.dueText(over + behind, BAD_NUMBER, over.length() + " to ".length());
  }

  private static void numbersOfDust() {
    D.said("2: dust 0 .. 99; 'to' not below the one ahead of it");
    slot("dust ", 0, 99, " to 99;", x -> x.rule(4, 0));
    slotAheadOfTo("dust ", 0, 7, " to 7;", x -> x.rule(4, 0));
    slot("dust 0 to ", 0, 99, ";", x -> x.rule(5, 0));
    slot("dust 7 to ", 7, 99, ";", x -> x.rule(5, 0));
    slot("dust 99 to ", 99, 99, ";", x -> x.rule(5, 0));
  }

  private static long listWithBlur(FarCandles x) {
    for (int list = 0; list < 6; list++) {
      if (x.rule(6, list) != 0) {
        return list;
      }
    }
    return NONE;
  }

  private static void numbersOfBlur() {
    D.said("2: blur: LIST 0 .. 5 by 0 .. 999");
    slot("blur ", 0, 5, " by 3;", x -> listWithBlur(x));
    slot("blur 0 by ", 0, 999, ";", x -> x.rule(6, 0));
    slot("blur 5 by ", 0, 999, " ;", x -> x.rule(6, 5));
  }

  private static void numbersOfOwn() {
    D.said("2: own 0 .. 9999");
    slot("own ", 0, 9999, ";", x -> x.rule(7, 0));
    slot("own", 0, 9999, " ;", x -> x.rule(7, 0));
  }

  private static void numbersOfClaim() {
    D.said("2: claim: HOME 0 .. 9, M -40000 .. 40000");
    slot("claim ", 0, 9, " above 1;", x -> x.claim(0, 1));
    slot("claim ", 0, 9, " below 1;", x -> x.claim(0, 1));
    slot("claim 3 above ", -40000, 40000, ";", x -> x.claim(0, 2));
    slot("claim 3 below ", -40000, 40000, " ;", x -> x.claim(0, 2));
  }

  private static void figures() {
    D.said("2: N: a NUMBER of one to five figures; FAULT 2 a NUMBER of six figures or more");
    for (int zeros = 0; zeros <= 4; zeros++) {
      D.dueText("own " + "0".repeat(zeros) + "7;", 1, NONE);
      D.dueText("claim 1 above -" + "0".repeat(zeros) + "7;", 1, NONE);
    }
    for (int zeros : new int[] {5, 6, 8, 9, 10, 18, 19, 30, 200}) {
      D.dueText("own " + "0".repeat(zeros) + "7;", BAD_NUMBER, 4);
      D.dueText("claim 1 above -" + "0".repeat(zeros) + "7;", BAD_NUMBER, 14);
      D.dueText("own " + "0".repeat(zeros) + "7", BAD_NUMBER, 4);
    }
    // Numbers that would be small again, if they were counted beyond what an int or a long holds.
    D.dueText("own 4294967301;", BAD_NUMBER, 4);
    D.dueText("own 18446744073709551621;", BAD_NUMBER, 4);
    D.dueText("claim 1 below -4294967301;", BAD_NUMBER, 14);
  }

  private static void minusRightBehind() {
    D.said("2: M: likewise, or '-' and right behind it such a NUMBER");
    D.dueText("claim 1 above -1;", 1, NONE);
    D.dueText("claim 1 above -0;", 1, NONE);
    D.dueText("claim 1 above- 1;", CANNOT_STAND, 14);
    D.dueText("claim 1 above - 1;", CANNOT_STAND, 15);
    D.dueText("claim 1 above -;", CANNOT_STAND, 15);
    D.dueText("claim 1 above -", CANNOT_STAND, 15);
    D.dueText("claim 1 above --1;", CANNOT_STAND, 15);
    D.dueText("claim 1 above -below;", CANNOT_STAND, 15);
    D.dueText("claim 1 above 1-;", CANNOT_STAND, 15);
    D.dueText("claim 1 above +1;", CANNOT_STAND, 14);
    D.dueText("sort 0 time -", CANNOT_STAND, 13);
    D.dueText("sort 0 time - to 1 colour 1 to 1;", CANNOT_STAND, 13);
  }

  private static void noMinusAheadOfN() {
    D.said("2: N: a NUMBER (no '-')");
    D.dueText("sort -1 time 1 to 1 colour 1 to 1;", CANNOT_STAND, 5);
    D.dueText("dust -1 to 1;", CANNOT_STAND, 5);
    D.dueText("dust 1 to -1;", CANNOT_STAND, 10);
    D.dueText("blur -1 by 1;", CANNOT_STAND, 5);
    D.dueText("blur 1 by -1;", CANNOT_STAND, 10);
    D.dueText("own -1;", CANNOT_STAND, 4);
    D.dueText("own-1;", CANNOT_STAND, 3);
    D.dueText("claim -1 above 1;", CANNOT_STAND, 6);
  }

  private static void lettersOfWords() {
    D.said("2: Words are letters a .. z side by side");
    D.dueText("owna5;", CANNOT_STAND, 0);
    D.dueText("ownz5;", CANNOT_STAND, 0);
    // The bytes next to a and z are no letters: so 'own' ends ahead of them.
    D.dueText("own`5;", CANNOT_STAND, 3);
    D.dueText("own{5;", CANNOT_STAND, 3);
    D.dueText("ownA5;", CANNOT_STAND, 3);
    D.dueText("own\u00e15;", CANNOT_STAND, 3);
    D.dueText("OWN 5;", CANNOT_STAND, 0);
    D.dueText("dust 1 toz 2;", CANNOT_STAND, 7);
    D.dueText("dust 1 to{ 2;", CANNOT_STAND, 9);
    // The bytes next to 0 and 9 are no figures.
    D.dueText("own 5/;", CANNOT_STAND, 5);
    D.dueText("own 5:;", CANNOT_STAND, 5);
    D.dueText("own /;", CANNOT_STAND, 4);
    D.dueText("own :;", CANNOT_STAND, 4);
    D.dueText("own 09;", 1, NONE);
  }

  private static boolean isWithin(String text, int at) {
    if (at == 0 || at == text.length()) {
      return false;
    }
    String pair = text.substring(at - 1, at + 1);
    return pair.matches("[a-z][a-z]|[0-9][0-9]|-[0-9]");
  }

  private static int startOfWord(String text, int at) {
    int start = at;
    while (start > 0 && Character.isLowerCase(text.charAt(start - 1))) {
      start--;
    }
    return start;
  }

  private static void blanksAnywhere() {
    D.said("2: blanks (32) may stand anywhere but within words and NUMBERS");
    for (int at = 0; at <= ALL.length(); at++) {
      if (!isWithin(ALL, at)) {
        D.dueText(ALL.substring(0, at) + " " + ALL.substring(at), 6, NONE);
        D.dueText(ALL.substring(0, at) + "   " + ALL.substring(at), 6, NONE);
      }
    }
  }

  private static void noBlanksWithin() {
    D.said("2: but within words and NUMBERS");
    for (int at = 0; at <= ALL.length(); at++) {
      if (isWithin(ALL, at)) {
        int fault = ALL.charAt(at - 1) == '-' ? at : startOfWord(ALL, at);
        D.dueText(ALL.substring(0, at) + " " + ALL.substring(at), CANNOT_STAND, fault);
      }
    }
    D.dueText("own 1 2;", CANNOT_STAND, 6);
    D.dueText("own 12345 6;", BAD_NUMBER, 4);
    D.dueText("claim 1 above 4 0000;", CANNOT_STAND, 16);
    D.dueText("claim 1 above -4 0000;", CANNOT_STAND, 17);
  }

  private static void sideBySide() {
    D.said("2: two words or two NUMBERS side by side need one");
    // No clause has two of them side by side: with a blank or without they cannot stand there.
    D.dueText("dust 1 toto 2;", CANNOT_STAND, 7);
    D.dueText("dust 1 to to 2;", CANNOT_STAND, 10);
    D.dueText("claim 1 abovebelow 2;", CANNOT_STAND, 8);
    D.dueText("dust 1 2;", CANNOT_STAND, 7);
    D.dueText("dust 12;", CANNOT_STAND, 7);
    D.dueText("ownown 5;", CANNOT_STAND, 0);
    D.dueText("own own 5;", CANNOT_STAND, 4);
  }

  private static void noBlankIsNeeded() {
    D.said("2: ('-' stands alone)");
    D.dueText("claim1above-1;", 1, NONE);
    D.dueText("sort1time-2to-1colour-4to-3;", 1, NONE);
    D.dueText("claim 1-2 above 3;", CANNOT_STAND, 7);
    D.dueText(ALL.replace(" ", ""), 6, NONE);
  }

  private static void onlyBlanksAreBlank() {
    D.said("2: blanks (32)");
    for (int b = 0; b < 256; b++) {
      boolean figure = b >= '0' && b <= '9';
      boolean letter = b >= 'a' && b <= 'z';
      int place = letter ? 0 : 3;
      D.dueText("own" + (char) b + "5;", b == ' ' || figure ? 1 : CANNOT_STAND, b == ' ' || figure ? NONE : place);
      boolean opens = b == ' ';
      D.dueText((char) b + "own 5;", opens ? 1 : CANNOT_STAND, opens ? NONE : 0);
    }
  }

  private static void notToldAsAtFirst() {
    D.said("2: What is not told holds as at first: a, b 0 to 0; dust 31 to 31; blur 0; own 0.");
    String[] texts = {"", "own 9;", "dust 6 to 7;", "blur 2 by 8;", "sort 1 time -2 to 3 colour -4 to 5;", "claim 3 above -4;"};
    for (String text : texts) {
      FarCandles x = new FarCandles();
      Due.read(x, ALL);
      Due.read(x, text);
      D.due("own by " + text, x.rule(7, 0), text.startsWith("own") ? 9 : 0);
      D.due("dust by " + text, x.rule(4, 0), text.startsWith("dust") ? 6 : 31);
      D.due("dust by " + text, x.rule(5, 0), text.startsWith("dust") ? 7 : 31);
      D.due("blur by " + text, x.rule(6, 2), text.startsWith("blur") ? 8 : 0);
      int[] laws = {-2, 3, -4, 5};
      for (int what = 0; what < 4; what++) {
        D.due("law by " + text, x.rule(what, 1), text.startsWith("sort") ? laws[what] : 0);
        D.due("another sort's law by " + text, x.rule(what, 0), 0);
      }
      D.due("claims by " + text, x.count(5), text.startsWith("claim") ? 1 : 0);
    }
  }

  private static void likeClauses() {
    D.said("2: Of like clauses the last rules");
    FarCandles x = Due.ruled("own 1;own 2;own 0;");
    D.due("own", x.rule(7, 0), 0);
    x = Due.ruled("dust 1 to 9;dust 5 to 5;");
    D.due("dust", x.rule(4, 0), 5);
    D.due("dust", x.rule(5, 0), 5);
    x = Due.ruled("blur 1 by 5;blur 2 by 6;blur 1 by 0;");
    D.due("blur", x.rule(6, 1), 0);
    D.due("another list's is not alike", x.rule(6, 2), 6);
    x = Due.ruled("sort 1 time 5 to 6 colour 7 to 8;sort 2 time 1 to 2 colour 3 to 4;sort 1 time -1 to 0 colour 0 to 0;");
    int[][] laws = {{-1, 0, 0, 0}, {1, 2, 3, 4}};
    for (int what = 0; what < 4; what++) {
      D.due("law", x.rule(what, 1), laws[0][what]);
      D.due("another sort's is not alike", x.rule(what, 2), laws[1][what]);
    }
    D.due("twenty alike", Due.read(x, "own5;".repeat(19) + "own6;"), 20);
    D.due("the twentieth", x.rule(7, 0), 6);
  }

  private static void allClaims() {
    D.said("2: CLAIMS (8 at most) are all");
    StringBuilder text = new StringBuilder();
    for (int n = 0; n <= 8; n++) {
      FarCandles x = new FarCandles();
      D.due("read " + n, Due.read(x, text.toString()), n);
      D.due("claims", x.count(5), n);
      D.due("behind the last", x.claim(n, 1), UNKNOWN);
      for (int i = 0; i < n; i++) {
        D.due("home", x.claim(i, 1), 9 - i);
        D.due("M", x.claim(i, 2), -i);
        D.due("above", x.claim(i, 3), i % 2);
      }
      text.append("claim ").append(9 - n).append(n % 2 == 1 ? " above " : " below ").append(-n).append(";");
    }
    D.due("like ones are two", Due.read(new FarCandles(), "claim1above1;claim1above1;"), 2);
  }

  /** A text that ends too early: within a word at its first letter, else at its end. */
  private static void cutAnywhere() {
    D.said("2: FAULTS, at the first byte that has one (the end at the text's length)");
    int clauses = 0;
    for (int at = 0; at <= ALL.length(); at++) {
      String text = ALL.substring(0, at);
      if (text.endsWith(";")) {
        clauses++;
      }
      boolean whole = text.isEmpty() || text.endsWith(";");
      boolean cutsWord = isWithin(ALL, at) && Character.isLowerCase(ALL.charAt(at));
      int place = cutsWord ? startOfWord(ALL, at) : at;
      D.dueText(text, whole ? clauses : CANNOT_STAND, whole ? NONE : place);
      D.dueText(text + "  ", whole ? clauses : CANNOT_STAND, whole ? NONE : blankPlace(text, cutsWord, at));
    }
  }

  private static int blankPlace(String text, boolean cutsWord, int at) {
    if (cutsWord) {
      return startOfWord(ALL, at);
    }
    return text.endsWith("-") ? at : at + 2;
  }

  private static void anyByteAnywhere() {
    D.said("2: FAULT 1 it cannot stand there (a word that cannot: at its first letter)");
    for (int at = 0; at <= ALL.length(); at++) {
      for (char b : new char[] {'!', '\0', '\u00ff', '\t', '\n', ',', '.', 'A', '_'}) {
        boolean cutsWord = isWithin(ALL, at) && Character.isLowerCase(ALL.charAt(at));
        D.dueText(ALL.substring(0, at) + b + ALL.substring(at), CANNOT_STAND, cutsWord ? startOfWord(ALL, at) : at);
      }
    }
    for (int b = 0; b < 256; b++) {
      boolean goesOn = b == ';' || b == ' ' || b >= '0' && b <= '9';
      int want = b == ';' ? 1 : CANNOT_STAND;
      D.dueText("own 5" + (char) b, want, b == ';' ? NONE : goesOn ? 6 : 5);
    }
  }

  private static void endOfText() {
    D.said("2: (the end at the text's length)");
    D.dueText("own", CANNOT_STAND, 3);
    D.dueText("own  ", CANNOT_STAND, 5);
    D.dueText("own 5", CANNOT_STAND, 5);
    D.dueText("own 5  ", CANNOT_STAND, 7);
    D.dueText("own 5; own 6", CANNOT_STAND, 12);
    D.dueText("own" + " ".repeat(237), CANNOT_STAND, 240);
    D.dueText("claim 1 above" + " ".repeat(226) + "5", CANNOT_STAND, 240);
  }

  private static void wordThatCannot() {
    D.said("2: FAULT 1 .. (a word that cannot: at its first letter)");
    for (String word : new String[] {"time", "to", "colour", "by", "above", "below", "s", "sor", "sorts", "claims", "x"}) {
      D.dueText(word + " 5;", CANNOT_STAND, 0);
      D.dueText("own 5;  " + word, CANNOT_STAND, 8);
      D.dueText("own 5 " + word + ";", CANNOT_STAND, 6);
      D.dueText("own " + word + ";", CANNOT_STAND, 4);
    }
    for (String word : new String[] {"sort", "dust", "blur", "own", "claim"}) {
      D.dueText("claim 5 " + word + " 5;", CANNOT_STAND, 8);
      D.dueText("dust 5 " + word + " 5;", CANNOT_STAND, 7);
      D.dueText("own 5 " + word + " 5;", CANNOT_STAND, 6);
    }
    D.dueText("sort 1 time 1 by 2 colour 1 to 2;", CANNOT_STAND, 14);
    D.dueText("sort 1 colour 1 to 2 time 1 to 2;", CANNOT_STAND, 7);
    D.dueText("sort 1 time 1 to 2 time 1 to 2;", CANNOT_STAND, 19);
    D.dueText("blur 1 to 2;", CANNOT_STAND, 7);
    D.dueText("claim 1 to 2;", CANNOT_STAND, 8);
  }

  private static void ninthClaim() {
    D.said("2: FAULT 3 a ninth CLAIM (at its first letter)");
    String eight = "claim1above2;".repeat(8);
    D.dueText(eight, 8, NONE);
    D.dueText(eight + "claim1above2;", NINTH_CLAIM, 104);
    D.dueText(eight + "   claim1above2;", NINTH_CLAIM, 107);
    D.dueText(eight + "own 5;own 6;claim1below2;", NINTH_CLAIM, 116);
    D.dueText(eight + "claim", NINTH_CLAIM, 104);
    D.dueText(eight + "claim!", NINTH_CLAIM, 104);
    D.dueText(eight + "clai", CANNOT_STAND, 104);
    D.dueText("own 5;" + eight + "claim1above2;", NINTH_CLAIM, 110);
    FarCandles x = new FarCandles();
    Due.read(x, "claim1above2;");
    D.due("eight anew", Due.read(x, eight), 8);
    D.due("eight once more", Due.read(x, eight), 8);
  }

  private static void twentyFirstClause() {
    D.said("2: FAULT 4 a twenty-first clause (at its first letter)");
    String twenty = "own5;".repeat(20);
    D.dueText(twenty, 20, NONE);
    D.dueText(twenty + " ".repeat(140), 20, NONE);
    for (String word : new String[] {"own", "sort", "dust", "blur", "claim"}) {
      D.dueText(twenty + word, TOO_MANY_CLAUSES, 100);
      D.dueText(twenty + "  " + word + " 5;", TOO_MANY_CLAUSES, 102);
      D.dueText(twenty + word + " 999999;", TOO_MANY_CLAUSES, 100);
    }
    D.dueText("own5;".repeat(21), TOO_MANY_CLAUSES, 100);
    D.dueText("own5;".repeat(48), TOO_MANY_CLAUSES, 100);
    D.dueText("dust1to2;".repeat(20), 20, NONE);
    D.dueText("dust1to2;".repeat(20) + "own5;", TOO_MANY_CLAUSES, 180);
    FarCandles x = new FarCandles();
    D.due("twenty", Due.read(x, twenty), 20);
    D.due("twenty anew", Due.read(x, twenty), 20);
  }

  private static void firstByteThatHasOne() {
    D.said("2: FAULTS, at the first byte that has one");
    D.dueText("own 10000; own", BAD_NUMBER, 4);
    D.dueText("own 10000 !", BAD_NUMBER, 4);
    D.dueText("own ! 10000;", CANNOT_STAND, 4);
    D.dueText("claim1above2;".repeat(8) + "own 10000;claim1above2;", BAD_NUMBER, 108);
    D.dueText("claim1above2;".repeat(8) + "claim10above2;!", NINTH_CLAIM, 104);
    D.dueText("own5;".repeat(19) + "own!;own5;", CANNOT_STAND, 98);
    D.dueText("own5;".repeat(20) + "own!;", TOO_MANY_CLAUSES, 100);
    D.dueText("sort 6 time 10000 to 1 colour 1 to 0;", BAD_NUMBER, 5);
    D.dueText("dust 100 to 99;", BAD_NUMBER, 5);
    D.dueText("blur 6 by 1000;", BAD_NUMBER, 5);
    D.dueText("claim 10 above 40001;", BAD_NUMBER, 6);
    D.dueText("sort 1 time -10000 to -9999 colour 1 to 2;", BAD_NUMBER, 12);
    D.dueText("sort 1 time -1 to -10000 colour 1 to 2;", BAD_NUMBER, 18);
  }

  private static void leastOfThese() {
    D.said("2: of these the least");
    D.dueText("own 5 123456;", CANNOT_STAND, 6);
    D.dueText("own -123456;", CANNOT_STAND, 4);
    D.dueText("own5;".repeat(20) + "123456", CANNOT_STAND, 100);
    D.dueText("own5;".repeat(20) + "owns", CANNOT_STAND, 100);
    D.dueText("own5;".repeat(20) + ";", CANNOT_STAND, 100);
    String eight = "claim1above2;".repeat(8);
    D.dueText(eight + "own5;".repeat(12) + "claim", NINTH_CLAIM, 164);
    D.dueText(eight + "own5;".repeat(12) + "claims", CANNOT_STAND, 164);
    D.dueText(eight + "own5;".repeat(12) + "own", TOO_MANY_CLAUSES, 164);
    D.dueText(eight + "own5;".repeat(11) + "claim", NINTH_CLAIM, 159);
  }

  private static void rulesAsTheyWere() {
    D.said("Promise 13: -10 less the number of its FAULT (THE RULES are as they were)");
    String eight = "claim1above2;".repeat(8);
    String[] faulty = {"own 5;dust 1 to 2;!", "blur 2 by 9;own 10000;", eight + "claim", "own5;".repeat(21)};
    for (int n = 0; n < faulty.length; n++) {
      FarCandles x = Due.ruled(ALL);
      D.due("read " + faulty[n], Due.read(x, faulty[n]), -11 - n);
      D.due("read once more", Due.read(x, faulty[n]), -11 - n);
      int[] laws = {-2, 3, -4, 5, 6, 7};
      for (int what = 0; what < laws.length; what++) {
        D.due("rule(" + what + ", 1)", x.rule(what, 1), laws[what]);
      }
      D.due("blur", x.rule(6, 2), 8);
      D.due("own", x.rule(7, 0), 9);
      D.due("claims", x.count(5), 2);
      D.due("the first one's M", x.claim(0, 2), -4);
      D.due("the second one's home", x.claim(1, 1), 5);
    }
  }

  private static void latestRead() {
    D.said("Promise 14: The byte of the FAULT of the latest read(); NONE.");
    FarCandles x = new FarCandles();
    D.due("none was read", x.fault(), NONE);
    Due.feed(x, "own");
    D.due("fed, not read", x.fault(), NONE);
    D.due("read", x.read(), CANNOT_STAND);
    D.due("at its end", x.fault(), 3);
    D.due("asked again", x.fault(), 3);
    Due.feed(x, " own 77777;");
    D.due("still the latest read's", x.fault(), 3);
    D.due("read", x.read(), BAD_NUMBER);
    D.due("another byte", x.fault(), 5);
    D.due("an empty text", x.read(), 0);
    D.due("none", x.fault(), NONE);
    Due.read(x, "!");
    D.due("the first byte", x.fault(), 0);
    Due.read(x, "own 5;");
    D.due("none", x.fault(), NONE);
    Due.read(x, " ".repeat(239) + "!");
    D.due("the last byte", x.fault(), 239);
    Due.read(x, " ".repeat(237) + "own");
    D.due("the end of a full text", x.fault(), 240);
  }

  private static void rule() {
    D.said("Promise 15: what = 0 .. 7. UNKNOWN (SORT, LIST), OUTSIDE.");
    FarCandles x = Due.ruled(ALL + "blur 1 by 7;");
    int[] wants = {-2, 3, -4, 5, 6, 7, 7, 9};
    D.edges("rule's what", 0, 7, OUTSIDE, n -> x.rule(n, 1), n -> wants[n]);
    for (int i : new int[] {-1, 6, 9, Integer.MIN_VALUE, Integer.MAX_VALUE}) {
      for (int what = 0; what < 8; what++) {
        boolean needsOne = what < 4 || what == 6;
        D.due("rule(" + what + ", " + i + ")", x.rule(what, i), needsOne ? UNKNOWN : wants[what]);
      }
    }
  }
}
