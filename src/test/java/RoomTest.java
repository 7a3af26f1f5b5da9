import java.lang.management.ManagementFactory;

/** The dearest calls make nothing: an object with all that may be told and 512 calls stay far within the one room. */
public final class RoomTest {
  private static final long MOST_BYTES = 1_000_000;

  public static void main(String[] args) {
    RiverFeet warm = full();
    dear(warm, 20);
    long before = allocated();
    RiverFeet x = full();
    dear(x, 512);
    long made = allocated() - before;
    System.out.println(made + " bytes were made, at most " + MOST_BYTES + " are due");
    if (made > MOST_BYTES) System.exit(1);
  }

  private static long allocated() {
    com.sun.management.ThreadMXBean bean = (com.sun.management.ThreadMXBean) ManagementFactory.getThreadMXBean();
    return bean.getThreadAllocatedBytes(Thread.currentThread().getId());
  }

  private static RiverFeet full() {
    RiverFeet x = new RiverFeet();
    for (int i = 0; i < 4; i++) x.bed();
    for (int i = 0; i < 8; i++) x.pier(i / 2, 20 - i, 200, 10 * i, 9);
    for (int d = 0; d < 400; d += 20) x.flows(d, 2, 20, d % 90, 3);
    for (int i = 0; i < 20; i++) x.tree(i % 8, 20 * i, 1);
    for (int i = 0; i < 40; i++) x.look(i % 8, 10 * i, 100, 50, 10 * i);
    for (int i = 0; i < 4; i++) x.bridge(255 >> i, 99);
    for (int i = 0; i < 10; i++) x.offer(i % 8, 10 + i, 100 + i);
    return x;
  }

  private static void dear(RiverFeet x, int calls) {
    for (int i = 0; i < calls; i++) {
      int p = i % 8;
      if (i % 50 == 0) x.flows(0, 2, 60, i % 99, 1);
      switch (i % 12) {
        case 0: x.next(p, 0, 399, 7); break;
        case 1: x.plan(p, 100, 50, 6, 3, 10); break;
        case 2: x.settles(p, 0, 399, 100, 50, 6, 10); break;
        case 3: x.run(p % 4, 340, 399, 500); break;
        case 4: x.best(p % 4, 340, 399, 500); break;
        case 5: x.choose(9999, 399); break;
        case 6: x.blame(p); break;
        case 7: x.lay(p); break;
        case 8: x.check(p); break;
        case 9: x.minds(p); break;
        case 10: x.as(i % 400); break;
        default: x.count(10); break;
      }
    }
  }
}
