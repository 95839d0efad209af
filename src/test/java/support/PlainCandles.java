import java.math.BigInteger;
import java.util.ArrayDeque;
import java.util.ArrayList;
import java.util.Arrays;
import java.util.Deque;
import java.util.List;
import java.util.TreeSet;
import java.util.function.IntPredicate;

/**
 * The document once more, as slow and plain as can be and by other means than FarCandles: each
 * number and its negative are two nodes of an octagon, closed by all triples; every try is made
 * anew. AgainstPlainTest compares the two.
 */
final class PlainCandles {
  private static final int NONE = -1, UNKNOWN = -1000001, OUTSIDE = -1000002, NOT = -1000003;
  private static final int FULL = -1000004, QUARREL = -1000005, LOOSE = -1000006, LARGE = -1000007;
  private static final int NUMBERS = 16;
  private static final long FREE = Long.MAX_VALUE / 4;
  private static final String TABLE = "1000 1047 1096 1148 1202 1258 1318 1380 1445 1513 1584 1659 1737 1819"
      + " 1905 1995 2089 2187 2290 2398 2511 2630 2754 2884 3019 3162 3311 3467 3630 3801 3981 4168 4365 4570"
      + " 4786 5011 5248 5495 5754 6025 6309 6606 6918 7244 7585 7943 8317 8709 9120 9549";

  record Telling(int kind, int list, int sort, int home, int a, int b, int x, int c) { }

  private final List<Telling> all = new ArrayList<>();
  private final TreeSet<Integer> left = new TreeSet<>();
  private final TreeSet<Integer> undone = new TreeSet<>();
  private final Deque<Integer> latestUndone = new ArrayDeque<>();
  private final int[] p = new int[10];
  private final int[] q = new int[10];
  private final int[] red = new int[10];
  private PlainRules rules = new PlainRules("");
  private String text = "";
  private int faultAt = NONE;
  private Integer put = null;
  private boolean opened = false;

  PlainCandles() {
    Arrays.fill(red, NONE);
  }

  private static boolean in(long n, long from, long to) {
    return from <= n && n <= to;
  }

  private int tell(Telling t) {
    if (all.size() == 80) {
      return FULL;
    }
    all.add(t);
    latestUndone.clear();
    return all.size() - 1;
  }

  public int light(int list, int sort, int home, int m, int e, int x, int c) {
    if (!in(list, 0, 5) || !in(sort, 0, 5) || !in(home, 0, 9)) return UNKNOWN;
    if (!in(m, -5000, 30000) || !in(e, 0, 999) || !in(x, 0, 3000) || !in(c, -500, 3000)) return OUTSIDE;
    return tell(new Telling(0, list, sort, home, m, e, x, c));
  }

  public int shift(int list, int home, int u, int v) {
    if (!in(list, 0, 5) || !in(home, 0, 9)) return UNKNOWN;
    if (!in(u, -40000, 40000) || !in(v, -40000, 40000) || v < u) return OUTSIDE;
    return tell(new Telling(1, list, NONE, home, u, v, 0, 0));
  }

  public int anchor(int list, int sort, int u, int v) {
    if (!in(list, 0, 5) || !in(sort, 0, 5)) return UNKNOWN;
    if (!in(u, -40000, 40000) || !in(v, -40000, 40000) || v < u) return OUTSIDE;
    return tell(new Telling(2, list, sort, NONE, u, v, 0, 0));
  }

  public int redden(int home, int p1, int q1) {
    if (!in(home, 0, 9)) return UNKNOWN;
    if (!in(p1, 0, 2000) || !in(q1, 0, 2000) || q1 < p1) return OUTSIDE;
    p[home] = p1;
    q[home] = q1;
    return 1;
  }

  public int redness(int home, int v) {
    if (!in(home, 0, 9)) return UNKNOWN;
    if (!in(v, NONE, 99999)) return OUTSIDE;
    int was = red[home];
    red[home] = v;
    return was;
  }

  public int leave(int i, boolean is) {
    if (!in(i, 0, all.size() - 1)) return UNKNOWN;
    return (is ? !left.add(i) : left.remove(i)) ? 1 : 0;
  }

  public int undo() {
    for (int i = all.size() - 1; i >= 0; i--) {
      if (undone.add(i)) {
        latestUndone.push(i);
        return i;
      }
    }
    return NOT;
  }

  public int redo() {
    if (latestUndone.isEmpty()) return NOT;
    int i = latestUndone.pop();
    undone.remove(i);
    return i;
  }

  private boolean inNet(int i) {
    return !undone.contains(i) && !left.contains(i);
  }

  private int low(int i) {
    return (int) end(all.get(i), -1);
  }

  private int high(int i) {
    return (int) end(all.get(i), 1);
  }

  /** Low (side -1) or high (side 1): the worst of all corners, each rounded outwards. */
  private long end(Telling t, int side) {
    long blur = side * rules.blur[t.list];
    if (t.kind != 0) return (side < 0 ? t.a : t.b) + blur;
    Long worst = null;
    for (int corner = 0; corner < 4; corner++) {
      long even = (long) rules.time[t.sort][corner & 1] * t.x + (long) rules.colour[t.sort][corner >> 1] * t.c;
      worst = worst == null ? even : side < 0 ? Math.max(worst, even) : Math.min(worst, even);
    }
    long evened = side < 0 ? (long) Math.ceil(worst / 1000.0) : (long) Math.floor(worst / 1000.0);
    double dust = side < 0 ? Math.ceil(q[t.home] * rules.dust[1] / 10.0) : Math.floor(p[t.home] * rules.dust[0] / 10.0);
    return t.a + side * t.b - evened - (long) dust + blur;
  }

  public int told(int i, int what) {
    if (!in(i, 0, all.size() - 1)) return UNKNOWN;
    if (!in(what, 0, 6)) return OUTSIDE;
    Telling t = all.get(i);
    int[] answers = {t.kind, t.list, t.sort, t.home, inNet(i) ? 1 : 0, low(i), high(i)};
    return answers[what];
  }

  public int count(int what) {
    if (!in(what, 0, 8)) return OUTSIDE;
    int net = 0, lights = 0;
    for (int i = 0; i < all.size(); i++) {
      net += inNet(i) ? 1 : 0;
      lights += all.get(i).kind == 0 ? 1 : 0;
    }
    int loose = 0;
    if (what == 4) {
      Octagon o = octagon(i -> true, all.size(), 0);
      for (int h = 0; h < 10; h++) loose += o.upper(h) == null ? 1 : 0;
      loose = o.quarrel ? -1 : loose;
    }
    int[] answers = {all.size(), net, left.size(), undone.size(), loose, rules.claims.size(), text.length(),
      put != null && !opened ? 1 : 0, lights};
    return answers[what];
  }

  public int feed(int n, long bytes) {
    if (!in(n, 1, 8)) return OUTSIDE;
    if (text.length() + n > 240) return FULL;
    byte[] eight = BigInteger.valueOf(bytes).and(BigInteger.ONE.shiftLeft(64).subtract(BigInteger.ONE)).toByteArray();
    StringBuilder more = new StringBuilder();
    for (int k = n; k >= 1; k--) {
      more.append((char) (eight.length - k >= 0 ? eight[eight.length - k] & 255 : 0));
    }
    text += more;
    return text.length();
  }

  public int read() {
    PlainRules next = new PlainRules(text);
    text = "";
    faultAt = next.faultAt;
    if (next.fault != 0) return -10 - next.fault;
    rules = next;
    return next.clauses;
  }

  public int fault() {
    return faultAt;
  }

  public int rule(int what, int i) {
    if (!in(what, 0, 7)) return OUTSIDE;
    if ((what < 4 || what == 6) && !in(i, 0, 5)) return UNKNOWN;
    if (what < 2) return rules.time[i][what];
    if (what < 4) return rules.colour[i][what - 2];
    if (what < 6) return rules.dust[what - 4];
    return what == 6 ? rules.blur[i] : rules.own;
  }

  /** All that the chosen tellings say: bounds on each number's double and on each two numbers' sum. */
  private final class Octagon {
    final long[][] most = new long[2 * NUMBERS][2 * NUMBERS];
    boolean quarrel = false;

    Octagon() {
      for (long[] row : most) Arrays.fill(row, FREE);
      for (int n = 0; n < 2 * NUMBERS; n++) most[n][n] = 0;
    }

    /** Number a of sign s and number b of sign t together are at most c. */
    void atMost(int a, int s, int b, int t, long c) {
      int va = 2 * a + s, vb = 2 * b + t;
      most[vb ^ 1][va] = Math.min(most[vb ^ 1][va], c);
      most[va ^ 1][vb] = Math.min(most[va ^ 1][vb], c);
    }

    void close() {
      for (int k = 0; k < 2 * NUMBERS && !quarrel; k++) {
        for (int i = 0; i < 2 * NUMBERS; i++) {
          for (int j = 0; j < 2 * NUMBERS; j++) {
            if (most[i][k] != FREE && most[k][j] != FREE) {
              most[i][j] = Math.min(most[i][j], most[i][k] + most[k][j]);
            }
          }
          quarrel |= most[i][i] < 0;
        }
      }
    }

    Integer upper(int a) {
      return most[2 * a + 1][2 * a] == FREE ? null : (int) (most[2 * a + 1][2 * a] / 2);
    }

    Integer lower(int a) {
      return most[2 * a][2 * a + 1] == FREE ? null : (int) (-most[2 * a][2 * a + 1] / 2);
    }

    Integer end(int home, int what) {
      return what == 0 ? lower(home) : upper(home);
    }

    /** The most that number b less number a can be. */
    Integer mostBetween(int a, int b) {
      long best = most[2 * a][2 * b];
      if (upper(b) != null && lower(a) != null) best = Math.min(best, upper(b) - lower(a));
      return best == FREE ? null : (int) best;
    }
  }

  private Octagon octagon(IntPredicate stays, int known, int widened) {
    Octagon o = new Octagon();
    for (int i = 0; i < known; i++) {
      if (!inNet(i) || !stays.test(i)) continue;
      Telling t = all.get(i);
      long low = low(i) - widened, high = high(i) + widened;
      int one = t.kind == 2 ? 10 + t.sort : t.home;
      int other = t.kind == 0 ? 10 + t.sort : one;
      int times = t.kind == 0 ? 1 : 2;
      o.atMost(one, 0, other, 0, times * high);
      o.atMost(one, 1, other, 1, -times * low);
    }
    o.close();
    return o;
  }

  private Octagon now() {
    return octagon(i -> true, all.size(), 0);
  }

  private boolean known(int k) {
    return in(k, NONE, all.size());
  }

  public int ends(int home, int k, int what) {
    if (!in(home, 0, 9)) return UNKNOWN;
    if (!known(k) || !in(what, 0, 1)) return OUTSIDE;
    Octagon o = octagon(i -> true, k == NONE ? all.size() : k, 0);
    if (o.quarrel) return QUARREL;
    Integer end = o.end(home, what);
    return end == null ? LOOSE : end + (put != null && !opened ? put : 0);
  }

  public int between(int g, int h, int what) {
    if (!in(g, 0, 9) || !in(h, 0, 9)) return UNKNOWN;
    if (!in(what, 0, 1)) return OUTSIDE;
    Octagon o = now();
    if (o.quarrel) return QUARREL;
    Integer most = what == 1 ? o.mostBetween(g, h) : o.mostBetween(h, g);
    return most == null ? LOOSE : what == 1 ? most : -most;
  }

  public int widening(int k) {
    if (!known(k)) return OUTSIDE;
    int known = k == NONE ? all.size() : k;
    int from = 0, to = 1000000;
    while (from < to) {
      int middle = (from + to) / 2;
      if (octagon(i -> true, known, middle).quarrel) from = middle + 1; else to = middle;
    }
    return from;
  }

  public int blame() {
    if (!now().quarrel) return NOT;
    int set = 0;
    for (int l = 0; l < 6; l++) {
      int list = l;
      if (!octagon(i -> all.get(i).list != list, all.size(), 0).quarrel) set += 1 << l;
    }
    return set;
  }

  public int odd(int i) {
    if (!now().quarrel) return NOT;
    int[] odd = oddOnes();
    if (i == NONE) return odd.length == 0 ? NONE : odd.length;
    return in(i, 0, odd.length - 1) ? odd[i] : NONE;
  }

  private int[] oddOnes() {
    for (int a = 0; a < all.size(); a++) {
      int one = a;
      if (inNet(a) && !octagon(t -> t != one, all.size(), 0).quarrel) return new int[] {a};
    }
    for (int a = 0; a < all.size(); a++) {
      for (int b = a + 1; b < all.size(); b++) {
        int one = a, two = b;
        if (!inNet(a) || !inNet(b)) continue;
        if (!octagon(t -> t != one && t != two, all.size(), 0).quarrel) return new int[] {a, b};
      }
    }
    return new int[0];
  }

  public int worth(int list, int home) {
    if (!in(list, 0, 5) || !in(home, 0, 9)) return UNKNOWN;
    Octagon with = now();
    if (with.quarrel) return QUARREL;
    if (with.upper(home) == null) return LOOSE;
    Octagon without = octagon(i -> all.get(i).list != list, all.size(), 0);
    if (without.upper(home) == null) return LARGE;
    return without.upper(home) - without.lower(home) - with.upper(home) + with.lower(home);
  }

  public int lead(int home, int what, int i) {
    if (!in(home, 0, 9)) return UNKNOWN;
    if (!in(what, 0, 1)) return OUTSIDE;
    Octagon o = now();
    if (o.quarrel) return QUARREL;
    if (o.end(home, what) == null) return LOOSE;
    List<Integer> lead = new ArrayList<>();
    for (int t = 0; t < all.size(); t++) {
      int one = t;
      if (inNet(t) && !o.end(home, what).equals(octagon(k -> k != one, all.size(), 0).end(home, what))) lead.add(t);
    }
    if (i == NONE) return lead.size();
    return in(i, 0, lead.size() - 1) ? lead.get(i) : NONE;
  }

  public int steps(int home) {
    if (!in(home, 0, 9)) return UNKNOWN;
    int[] lights = new int[10];
    Arrays.fill(lights, 999);
    for (int i = 0; i < all.size(); i++) {
      if (inNet(i) && all.get(i).kind == 1) lights[all.get(i).home] = 0;
    }
    for (int round = 0; round < 20; round++) {
      for (int i = 0; i < all.size(); i++) {
        for (int j = 0; j < all.size(); j++) {
          Telling s = all.get(i), t = all.get(j);
          if (inNet(i) && inNet(j) && s.kind == 0 && t.kind == 0 && s.sort == t.sort) {
            lights[t.home] = Math.min(lights[t.home], lights[s.home] + 2);
          }
        }
      }
    }
    return lights[home] >= 999 ? NONE : lights[home];
  }

  private static int table(int k) {
    return k == 50 ? 9999 : Integer.parseInt(TABLE.split(" ")[k]);
  }

  public long far(int f, int what) {
    if (!in(f, 0, 40000) || !in(what, 0, 1)) return OUTSIDE;
    int k = f % 5000 / 100;
    long head = table(k);
    if (what == 1 && f % 5000 != 0) head = f % 100 == 0 ? table(k) + 1 : table(k + 1) + 1;
    return Long.parseLong(head + "0".repeat(f / 5000));
  }

  private boolean speaks(Octagon o, int home) {
    return red[home] != NONE && within(o, home);
  }

  private static boolean within(Octagon o, int home) {
    return o.upper(home) != null && o.lower(home) >= 0 && o.upper(home) <= 40000;
  }

  private int against(Octagon o, int g) {
    for (int h = 0; h < 10; h++) {
      if (!speaks(o, h)) continue;
      BigInteger box = BigInteger.valueOf(g), thousand = BigInteger.valueOf(1000);
      BigInteger least = box.multiply(BigInteger.valueOf(far(o.lower(h), 0))).divide(thousand);
      BigInteger most = box.multiply(BigInteger.valueOf(far(o.upper(h), 1))).add(BigInteger.valueOf(999)).divide(thousand);
      if (red[h] < least.longValue() - rules.own || red[h] > most.longValue() + rules.own) return h;
    }
    return NONE;
  }

  public int boxes(int what) {
    if (!in(what, 0, 3)) return OUTSIDE;
    Octagon o = now();
    if (o.quarrel) return QUARREL;
    TreeSet<Integer> kept = new TreeSet<>();
    for (int g = 1; g <= 200; g++) if (against(o, g) == NONE) kept.add(g);
    int speaking = 0;
    for (int h = 0; h < 10; h++) speaking += speaks(o, h) ? 1 : 0;
    if (what == 0) return kept.size();
    if (what == 3) return speaking;
    return kept.isEmpty() ? NONE : what == 1 ? kept.first() : kept.last();
  }

  public int box(int g) {
    if (!in(g, 1, 200)) return OUTSIDE;
    Octagon o = now();
    return o.quarrel ? QUARREL : against(o, g);
  }

  public long delay(int home, long u, long v) {
    if (!in(home, 0, 9)) return UNKNOWN;
    if (!in(u, 1, 2000000000L) || !in(v, 1, 2000000000L) || v < u) return OUTSIDE;
    Octagon o = now();
    if (o.quarrel) return QUARREL;
    if (!within(o, home)) return NOT;
    long least = far(o.lower(home), 0), most = far(o.upper(home), 1);
    return v < least ? least - v : u > most ? u - most : 0;
  }

  public int blind(int n) {
    if (!in(n, -999, 999)) return OUTSIDE;
    if (put != null) return NOT;
    put = n;
    return 1;
  }

  public int open() {
    if (put == null || opened) return NOT;
    opened = true;
    return put;
  }

  public int claim(int i, int what) {
    if (!in(i, 0, rules.claims.size() - 1)) return UNKNOWN;
    if (!in(what, 0, 3)) return OUTSIDE;
    int[] claim = rules.claims.get(i);
    if (what > 0) return claim[what - 1];
    Octagon o = now();
    if (o.quarrel) return QUARREL;
    int home = claim[0], mark = claim[1];
    if (o.upper(home) == null) return 0;
    // A claim 'below' is one 'above' of all negatives.
    int lower = claim[2] == 1 ? o.lower(home) : -o.upper(home);
    int upper = claim[2] == 1 ? o.upper(home) : -o.lower(home);
    int above = claim[2] == 1 ? mark : -mark;
    return lower > above ? 1 : upper <= above ? 2 : 0;
  }
}
