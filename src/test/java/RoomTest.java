import java.lang.management.ManagementFactory;
import java.lang.reflect.Array;
import java.lang.reflect.Field;
import java.lang.reflect.Modifier;
import java.util.List;

/**
 * The room (rule 12 of LANGUAGE.md): a new object, the dearest thing that can be made, fits into it even as often as
 * there are calls, and no call makes more than a few small objects: neither those that tell nor the dearest ones that ask.
 */
public final class RoomTest {
  private static final long CALLS = 512;
  private static final long MOST_OBJECTS = 600_000;
  private static final long MOST_ELEMENTS = 7_300_000;
  /** A look and the list of looks as it grows are some 270 bytes. */
  private static final long MOST_BYTES_A_CALL = 400;
  private static final long MOST_BYTES_OF_ALL_CALLS = 10_000;

  private final RiverFeet x = new RiverFeet();
  private String dearestCall = "";
  private long dearest = 0;
  private long sum = 0;
  private long objects = 0;
  private long elements = 0;

  public static void main(String[] args) throws Exception {
    boolean right = true;
    // the machine's own work on the first calls is not to be counted
    for (int i = 0; i < 2; i++) new RoomTest().calls();
    RoomTest fresh = new RoomTest();
    fresh.countObject(fresh.x);
    System.out.println("a new object: " + fresh.objects + " objects, " + fresh.elements + " elements");
    right &= fresh.objects * CALLS <= MOST_OBJECTS && fresh.elements * CALLS <= MOST_ELEMENTS;
    fresh.calls();
    System.out.println("the dearest call, " + fresh.dearestCall + ", made " + fresh.dearest + " bytes, all calls " + fresh.sum);
    right &= fresh.dearest <= MOST_BYTES_A_CALL && fresh.sum <= MOST_BYTES_OF_ALL_CALLS;
    if (!right) {
      System.out.println("too much is made");
      System.exit(1);
    }
  }

  private void countObject(Object o) throws Exception {
    objects++;
    if (o instanceof List<?> list) {
      elements += 3 + 10 + 3 * list.size();
      for (Object each : list) countObject(each);
    } else if (o.getClass().isArray()) {
      elements += Array.getLength(o);
      if (o instanceof Object[] parts) for (Object each : parts) if (each != null) countObject(each);
    } else {
      countFields(o);
    }
  }

  private void countFields(Object o) throws Exception {
    for (Field f : o.getClass().getDeclaredFields()) {
      if (Modifier.isStatic(f.getModifiers())) continue;
      elements++;
      f.setAccessible(true);
      if (!f.getType().isPrimitive() && f.get(o) != null) countObject(f.get(o));
    }
  }

  private static long allocated() {
    com.sun.management.ThreadMXBean bean = (com.sun.management.ThreadMXBean) ManagementFactory.getThreadMXBean();
    return bean.getThreadAllocatedBytes(Thread.currentThread().getId());
  }

  private void made(String name, Runnable call) {
    long none = allocated();
    long before = allocated();
    call.run();
    long made = allocated() - before - (before - none);
    sum += made;
    if (made > dearest) { dearest = made; dearestCall = name; }
  }

  private void calls() {
    tell();
    for (int i = 0; i < 400; i++) ask(i);
  }

  private void tell() {
    for (int i = 0; i < 5; i++) made("bed", x::bed);
    for (int n = 0; n < 9; n++) {
      int i = n;
      made("pier", () -> x.pier(i / 2 % 4, 20 - i, 200, 10 * i, 9));
    }
    for (int d = 0; d < 400; d += 20) {
      int day = d;
      made("flows", () -> x.flows(day, 2, 20, day % 90, 3));
    }
    for (int n = 0; n < 41; n++) {
      int i = n;
      if (i < 21) made("tree", () -> x.tree(i % 8, 19 * i, 1));
      made("look", () -> x.look(i % 8, 9 * i, 100, 50, 9 * i));
      if (i < 5) made("bridge", () -> x.bridge(255 >> i, 99));
      if (i < 11) made("offer", () -> x.offer(i % 8, 10 + i, 100 + i));
    }
  }

  private void ask(int i) {
    int p = i % 8;
    if (i % 50 == 0) made("flows", () -> x.flows(0, 2, 60, i % 99, 1));
    switch (i % 20) {
      case 0: made("next", () -> x.next(p, 0, 399, 7)); break;
      case 1: made("plan", () -> x.plan(p, 100, 50, 6, 3, 10)); break;
      case 2: made("settles", () -> x.settles(p, 0, 399, 100, 50, 6, 10)); break;
      case 3: made("run", () -> x.run(p % 4, 340, 399, 500)); break;
      case 4: made("best", () -> x.best(p % 4, 340, 399, 500)); break;
      case 5: made("choose", () -> x.choose(9999, 399)); break;
      case 6: made("blame", () -> x.blame(p)); break;
      case 7: made("lay", () -> x.lay(p)); break;
      case 8: made("check", () -> x.check(p)); break;
      case 9: made("minds", () -> x.minds(p)); break;
      case 10: made("as", () -> x.as(i % 400)); break;
      case 11: made("hole", () -> x.hole(p, i % 64, 399, 1)); break;
      case 12: made("when", () -> x.when(p, i % 64, 1)); break;
      case 13: made("ends", () -> x.ends(p, i % 400)); break;
      case 14: made("prove", () -> x.prove(i % 64, i % 40)); break;
      case 15: made("weighs", () -> x.weighs(i % 40)); break;
      case 16: made("worst", () -> x.worst(p, i % 400, 3)); break;
      case 17: made("shut", () -> x.shut(p % 4, i % 400, 500)); break;
      case 18: made("state", () -> x.state(p, i % 400)); break;
      default: made("count", () -> x.count(10)); break;
    }
  }
}
