import com.sun.management.ThreadMXBean;
import java.lang.management.ManagementFactory;
import java.lang.reflect.Array;
import java.lang.reflect.Field;
import java.lang.reflect.Modifier;
import java.util.ArrayDeque;
import java.util.Collections;
import java.util.Deque;
import java.util.IdentityHashMap;
import java.util.Set;

/** All calls of a run live in one room: an object is small, and no call makes anything new. */
public final class RoomTest {
  private static final Due D = new Due();
  private static final ThreadMXBean ROOM = (ThreadMXBean) ManagementFactory.getThreadMXBean();
  private static long kept = 0;

  public static void main(String[] args) throws Exception {
    FarCandles quiet = fullNet(0);
    FarCandles loud = fullNet(3000);
    quiet.feed(4, 0x6f776e20L);
    sizes(quiet);
    D.due("the quiet one does not quarrel", quiet.ends(9, -1, 0) != FarCandles.QUARREL);
    D.due("the loud one quarrels", loud.ends(9, -1, 0), FarCandles.QUARREL);
    allCalls(quiet);
    allCalls(loud);
    long before = ROOM.getThreadAllocatedBytes(Thread.currentThread().getId());
    for (int k = 0; k < 16; k++) {
      allCalls(quiet);
      allCalls(loud);
    }
    long made = ROOM.getThreadAllocatedBytes(Thread.currentThread().getId()) - before;
    // What the measuring itself makes is allowed for; one row of eighty a call would be 300000.
    D.due("the calls make nothing: " + made + " bytes", made < 4096);
    D.due("the answers were used", kept != 0);
    D.end();
  }

  private static FarCandles fullNet(int strife) {
    FarCandles x = new FarCandles();
    x.shift(0, 0, 1000, 1100);
    for (int i = 1; i < 80; i++) {
      int home = i * 7 % 10;
      int sort = i / 3 % 6;
      x.light(i % 6, sort, home, 2000 + 100 * home + 50 * sort + i * 37 % 50 + (i % 13 == 0 ? strife : 0), 60, 0, 0);
    }
    for (int home = 0; home < 10; home++) {
      x.redness(home, 100 + home);
    }
    return x;
  }

  private static void allCalls(FarCandles x) {
    for (int n = -1; n < 7; n++) {
      kept += x.light(0, 0, 0, 0, 0, 0, 0) + x.shift(0, 0, 0, 0) + x.anchor(0, 0, 0, 0) + x.redden(n, 0, 0);
      kept += x.redness(n, 100) + x.leave(n, false) + x.undo() + x.redo() + x.told(n, n) + x.count(n + 2);
      kept += x.feed(n + 1, 0x6f776e2035366f6eL) + x.read() + x.fault() + x.rule(n, n);
      kept += x.ends(n, n, 0) + x.between(0, n, 1) + x.widening(n == 6 ? -1 : 80) + x.blame() + x.odd(n);
      kept += x.worth(n, 9) + x.lead(n, 0, n) + x.steps(n) + x.far(40000, 1) + x.boxes(n) + x.box(n + 1);
      kept += x.delay(n, 1, 1) + x.blind(n) + x.open() + x.claim(n, 0);
    }
  }

  /** An object with all that it holds is so small that every call of a run could make one. */
  private static void sizes(Object root) throws Exception {
    Set<Object> seen = Collections.newSetFromMap(new IdentityHashMap<>());
    Deque<Object> open = new ArrayDeque<>();
    open.push(root);
    seen.add(root);
    long places = 0;
    while (!open.isEmpty()) {
      Object o = open.pop();
      if (o.getClass().isArray()) {
        places += Array.getLength(o);
        continue;
      }
      for (Field f : o.getClass().getDeclaredFields()) {
        if (Modifier.isStatic(f.getModifiers())) continue;
        places++;
        f.setAccessible(true);
        Object held = f.getType().isPrimitive() ? null : f.get(o);
        if (held != null && seen.add(held)) open.push(held);
      }
    }
    System.out.println(seen.size() + " objects and arrays, " + places + " fields and elements");
    D.due("at most 100 objects and arrays", seen.size() <= 100);
    D.due("at most 5000 fields and elements", places <= 5000);
  }
}
