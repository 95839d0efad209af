import java.lang.reflect.Method;
import java.nio.charset.StandardCharsets;
import java.util.ArrayList;
import java.util.List;
import java.util.Map;
import java.util.Random;
import java.util.TreeMap;

/**
 * Random runs of calls (with fixed seeds) on FarCandles and on PlainCandles: every answer must be
 * the same. Give a first seed and a number of runs as arguments to go further.
 */
public final class AgainstPlainTest {
  private static final int RUNS = 500, MOST_WRONG = 5;

  private final Map<String, Method> face = new TreeMap<>();
  private final Map<String, Method> plain = new TreeMap<>();
  private final Map<String, Integer> asked = new TreeMap<>();
  private Random dice;
  private FarCandles x;
  private PlainCandles y;
  private List<String> trail;
  private int tellings;
  private int[] trueFar;
  private int[] trueZero;
  private int strayed;
  private int spread;
  private int mostTellings;
  private int homes;
  private int sorts;
  private int wildness;
  private int wrong = 0;

  public static void main(String[] args) throws Exception {
    AgainstPlainTest test = new AgainstPlainTest();
    long seed = args.length > 0 ? Long.parseLong(args[0]) : 1;
    int runs = args.length > 1 ? Integer.parseInt(args[1]) : RUNS;
    for (int r = 0; r < runs && test.wrong < MOST_WRONG; r++) {
      test.run(seed + r);
    }
    System.out.println(test.asked);
    System.out.println(test.wrong == 0 ? "both answer alike" : test.wrong + " runs answer otherwise");
    System.exit(test.wrong == 0 ? 0 : 1);
  }

  private AgainstPlainTest() throws Exception {
    for (Method m : FarCandles.class.getDeclaredMethods()) {
      if (java.lang.reflect.Modifier.isPublic(m.getModifiers())) {
        face.put(m.getName(), m);
        plain.put(m.getName(), PlainCandles.class.getMethod(m.getName(), m.getParameterTypes()));
      }
    }
    for (Method m : plain.values()) {
      m.setAccessible(true);
    }
  }

  private void run(long seed) throws Exception {
    dice = new Random(seed);
    x = new FarCandles();
    y = new PlainCandles();
    trail = new ArrayList<>();
    tellings = 0;
    trueFar = dice.ints(10, 0, 20000).toArray();
    trueZero = dice.ints(6, -8000, 8000).toArray();
    // Some runs stray into quarrels often, some never; some have many tellings, most have few.
    strayed = new int[] {0, 2, 5, 20}[dice.nextInt(4)];
    spread = new int[] {0, 5, 50, 900}[dice.nextInt(4)];
    mostTellings = dice.nextInt(10) == 0 ? 85 : 6 + dice.nextInt(20);
    homes = 2 + dice.nextInt(9);
    sorts = 1 + dice.nextInt(6);
    wildness = dice.nextInt(3) == 0 ? 40 : 400;
    int calls = dice.nextInt(20) == 0 ? 512 : 40 + dice.nextInt(160);
    // A text takes up to forty calls: what an object answers behind its 512th is free.
    for (int c = 0; c < calls && trail.size() <= 512 - 40; c++) {
      if (!step()) {
        wrong++;
        System.out.println("seed " + seed + ":");
        trail.subList(Math.max(0, trail.size() - 60), trail.size()).forEach(System.out::println);
        return;
      }
    }
  }

  private boolean step() throws Exception {
    int kind = dice.nextInt(10);
    if (kind < 4 && tellings < mostTellings) {
      return tell();
    }
    if (kind == 4) {
      return dice.nextInt(6) > 0 || text();
    }
    if (kind == 5) {
      return change();
    }
    return question();
  }

  private boolean ask(String name, Object... args) throws Exception {
    long got = ((Number) face.get(name).invoke(x, args)).longValue();
    long want = ((Number) plain.get(name).invoke(y, args)).longValue();
    asked.merge(name, 1, Integer::sum);
    trail.add("  " + name + List.of(args) + " answered " + got + (got == want ? "" : ", due is " + want));
    return got == want;
  }

  /** A number from here to there; now and then one at or beyond an edge. */
  private int pick(int from, int to) {
    int roll = dice.nextInt(wildness);
    if (roll == 0) return from - 1;
    if (roll == 1) return to + 1;
    if (roll == 2) return new int[] {Integer.MIN_VALUE, Integer.MAX_VALUE, -1000001}[dice.nextInt(3)];
    if (roll < 5) return roll == 3 ? from : to;
    return from + dice.nextInt(to - from + 1);
  }

  private int home() {
    return dice.nextInt(10) == 0 ? pick(0, 9) : pick(0, homes - 1);
  }

  private int sort() {
    return dice.nextInt(10) == 0 ? pick(0, 5) : pick(0, sorts - 1);
  }

  private int stray(int number) {
    return dice.nextInt(100) < strayed ? number + dice.nextInt(4000) - 2000 : number;
  }

  private boolean tell() throws Exception {
    tellings++;
    int kind = dice.nextInt(8);
    int list = pick(0, 5), sort = sort(), home = home();
    int far = trueFar[Math.floorMod(home, 10)], zero = trueZero[Math.floorMod(sort, 6)];
    int below = dice.nextInt(spread + 1), above = dice.nextInt(spread + 1);
    if (kind == 0) return ask("shift", list, home, stray(far) - below, stray(far) + above);
    if (kind == 1) return ask("anchor", list, sort, stray(zero) - below, stray(zero) + above);
    if (kind == 2 && strayed > 2) return ask("shift", list, home, pick(-40000, 40000), pick(-40000, 40000));
    int miss = dice.nextInt(spread + 1);
    int bright = stray(far + zero) + dice.nextInt(2 * miss + 1) - miss;
    boolean plainly = dice.nextBoolean();
    return ask("light", list, sort, home, dice.nextInt(30) == 0 ? pick(-5000, 30000) : bright,
        dice.nextInt(30) == 0 ? pick(0, 999) : miss, plainly ? 0 : pick(0, 3000), plainly ? 0 : pick(-500, 3000));
  }

  private boolean change() throws Exception {
    switch (dice.nextInt(9)) {
      case 0: return ask("undo");
      case 1: return ask("redo");
      case 2: return dice.nextInt(2) > 0 || ask("redden", home(), pick(0, 5), pick(0, 30));
      case 3: return dice.nextInt(4) > 0 || ask("redden", home(), pick(0, 2000), pick(0, 2000));
      case 4: return ask("redness", home(), redness());
      case 5: return dice.nextInt(4) > 0 || ask("blind", pick(-999, 999));
      case 6: return dice.nextInt(4) > 0 || ask("open");
      default: return ask("leave", pick(0, Math.max(0, tellings - 1)), dice.nextBoolean());
    }
  }

  /** What a box near 70 makes of a true farness, or anything. */
  private int redness() {
    int home = dice.nextInt(10);
    int v = (int) Math.min(99999, Math.pow(10, trueFar[home] / 5000.0) * 70);
    return dice.nextInt(3) == 0 ? pick(-1, 99999) : v;
  }

  private boolean question() throws Exception {
    switch (dice.nextInt(19)) {
      case 0: return ask("told", pick(0, Math.max(0, tellings - 1)), pick(0, 6));
      case 1: return ask("count", pick(0, 8));
      case 2: return ask("fault");
      case 3: return ask("rule", pick(0, 7), pick(0, 5));
      case 4: return ask("ends", home(), -1, pick(0, 1));
      case 5: return ask("ends", home(), pick(0, tellings), pick(0, 1));
      case 6: return ask("between", home(), home(), pick(0, 1));
      case 7: return ask("widening", dice.nextBoolean() ? -1 : pick(0, tellings));
      case 8: return ask("blame");
      case 9: return dice.nextInt(3) > 0 || ask("odd", pick(-1, 2));
      case 10: return ask("worth", pick(0, 5), home());
      case 11: return ask("lead", home(), pick(0, 1), pick(-1, 6));
      case 12: return ask("steps", home());
      case 13: return ask("far", pick(0, 40000), pick(0, 1)) && ask("far", 100 * pick(0, 400), pick(0, 1));
      case 14: return ask("boxes", pick(0, 3));
      case 15: return ask("box", pick(1, 200));
      case 16: return ask("delay", home(), (long) pick(1, 2000000000), (long) pick(1, 2000000000));
      case 17: return ask("delay", home(), 1L + dice.nextInt(100000), 100000L + dice.nextInt(1000000));
      default: return ask("claim", pick(0, 7), pick(0, 3)) && ask("claim", pick(0, 2), 0) && ask("claim", 0, 0);
    }
  }

  private boolean text() throws Exception {
    StringBuilder text = new StringBuilder();
    int clauses = new int[] {0, 1, 1, 2, 3, 6, 9, 25}[dice.nextInt(8)];
    boolean claims = dice.nextInt(6) == 0;
    for (int c = 0; c < clauses; c++) {
      text.append(claims ? claim() : clause());
    }
    if (dice.nextInt(3) == 0 && text.length() > 0) {
      garble(text);
    }
    byte[] bytes = text.toString().getBytes(StandardCharsets.ISO_8859_1);
    for (int at = 0; at < bytes.length; ) {
      int n = Math.min(dice.nextInt(4) == 0 ? 1 + dice.nextInt(8) : 8, bytes.length - at);
      if (!ask("feed", n, Due.asLong(bytes, at, n))) return false;
      at += n;
    }
    if (dice.nextInt(20) == 0 && !ask("feed", pick(1, 8), dice.nextLong())) return false;
    return ask("count", 6) && ask("read") && ask("fault") && ask("count", 5);
  }

  private void garble(StringBuilder text) {
    int at = dice.nextInt(text.length());
    char any = " -;0x9 to-;a".charAt(dice.nextInt(12));
    switch (dice.nextInt(5)) {
      case 0 -> text.deleteCharAt(at);
      case 1 -> text.insert(at, any);
      case 2 -> text.setLength(at);
      case 3 -> text.setCharAt(at, (char) dice.nextInt(256));
      default -> text.setCharAt(at, any);
    }
  }

  private String clause() {
    int few = 1 + dice.nextInt(4);
    switch (dice.nextInt(6)) {
      case 0: {
        int a = pick(-9999, 9990) >> 2 * few, b = pick(-9999, 9990) >> 2 * few;
        return join("sort", rank(5), "time", "" + a, "to", "" + (a + more()), "colour", "" + b, "to", "" + (b + more()));
      }
      case 1: {
        int a = pick(0, 95);
        return join("dust", "" + a, "to", "" + (a + more()));
      }
      case 2: return join("blur", rank(5), "by", "" + pick(0, 999 >> 2 * few));
      case 3: return join("own", "" + pick(0, 9999 >> 2 * few));
      default: return claim();
    }
  }

  private String claim() {
    int home = dice.nextInt(10);
    int mark = dice.nextInt(3) == 0 ? pick(-40000, 40000) : trueFar[home] + dice.nextInt(9) - 4;
    return join("claim", "" + home, dice.nextBoolean() ? "above" : "below", "" + mark);
  }

  private String rank(int most) {
    return "" + pick(0, most);
  }

  private int more() {
    return dice.nextInt(40) == 0 ? -1 : dice.nextInt(5);
  }

  /** Words and numbers with blanks between them or none, and an end. */
  private String join(String... parts) {
    StringBuilder text = new StringBuilder();
    String gap = dice.nextInt(4) == 0 ? "  " : dice.nextBoolean() ? " " : "";
    for (String part : parts) {
      text.append(part).append(gap);
    }
    return text.append(';').toString();
  }
}
