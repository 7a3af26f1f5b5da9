import java.lang.annotation.ElementType;
import java.lang.annotation.Retention;
import java.lang.annotation.RetentionPolicy;
import java.lang.annotation.Target;
import java.util.ArrayList;
import java.util.List;
import java.util.NoSuchElementException;
import java.util.function.Supplier;

/** What the tests of boundary cases share: how an answer is held against the one that is due, and rivers to begin with. */
abstract class Edge {
  static final int NONE = RiverFeet.NONE;

  /** The words of the document that a test holds; the test's name begins with the promise or term where they stand. */
  @Retention(RetentionPolicy.RUNTIME)
  @Target(ElementType.METHOD)
  @interface Says {
    String value();
  }

  interface Call {
    int on(RiverFeet x);
  }

  private static final List<String> faults = new ArrayList<>();

  /** The faults since it was asked last. */
  static List<String> takeFaults() {
    List<String> found = new ArrayList<>(faults);
    faults.clear();
    return found;
  }

  static void due(String call, long got, long want) {
    if (got != want) faults.add(call + " answered " + got + ", due is " + want);
  }
  static void due(String call, boolean got, boolean want) {
    if (got != want) faults.add(call + " answered " + got + ", due is " + want);
  }

  /** The row has these numbers and no more. */
  static void row(RiverFeet x, int... want) {
    due("count(9)", x.count(9), want.length);
    for (int i = 0; i < want.length; i++) {
      try {
        due("row(" + i + ")", x.row(i), want[i]);
      } catch (NoSuchElementException e) {
        faults.add("row(" + i + ") threw, due is " + want[i]);
      }
    }
    noRow(x, want.length);
  }
  static void noRow(RiverFeet x, int i) {
    boolean threw = false;
    try {
      x.row(i);
    } catch (NoSuchElementException e) {
      threw = true;
    }
    due("row(" + i + ") throws NoSuchElementException", threw, true);
  }

  /** A call that is refused answers NONE and changes nothing, where something of each kind has been told. */
  static void refused(String call, Call refused) {
    refused(call, NONE, Edge::busy, refused);
  }
  /** A call that is refused (or tells nothing) in a river made for it: it answers so, and changes nothing. */
  static void refused(String call, int want, Supplier<RiverFeet> river, Call refused) {
    RiverFeet x = river.get();
    due(call, refused.on(x), want);
    List<Integer> with = picture(x);
    List<Integer> without = picture(river.get());
    if (!with.equals(without)) faults.add(call + " changed " + without + " to " + with);
  }

  /** Numbers just outside of least .. most, and those farthest outside. */
  static int[] outside(int least, int most) {
    return new int[] {least - 1, most + 1, Integer.MIN_VALUE, Integer.MAX_VALUE};
  }

  /** What can be asked of an object, in some three hundred calls at most. It is not to be used any more then. */
  private static List<Integer> picture(RiverFeet x) {
    List<Integer> all = new ArrayList<>();
    for (int what = 0; what <= 10; what++) all.add(x.count(what));
    addRow(all, x);
    int steps = x.count(6);
    for (int i : new int[] {0, 1, 2, steps - 2, steps - 1}) {
      all.add(x.proof(i, 0));
      all.add(x.proof(i, 1));
    }
    for (int day : new int[] {0, 1, 2, 3, 4, 5, 10, 59, 60, 61, 200, 339, 340, 341, 398, 399}) all.add(x.flow(day));
    for (int bed = 0; bed < x.count(0); bed++) all.add(x.shared(bed));
    for (int pier = 0; pier < x.count(1); pier++) addPier(all, x, pier);
    for (int look = 0; look < x.count(3); look++) all.add(x.weighs(look));
    for (int bridge = 0; bridge < x.count(7); bridge++) {
      all.add(x.run(bridge, 0, 19, 500));
      addRow(all, x);
    }
    all.add(x.choose(9999, 399));
    addRow(all, x);
    for (int day : new int[] {0, 2, 5, 100, 299, 300, 399}) {
      all.add(x.as(day));
      all.add(x.count(4));
    }
    return all;
  }
  private static void addRow(List<Integer> all, RiverFeet x) {
    for (int i = 0; i < x.count(9); i++) all.add(x.row(i));
  }
  private static void addPier(List<Integer> all, RiverFeet x, int pier) {
    for (int mind : new int[] {0, 63}) for (int day : new int[] {2, 399}) all.add(x.hole(pier, mind, day, 0));
    all.add(x.minds(pier));
    all.add(x.ends(pier, 3));
    addRow(all, x);
    all.add(x.state(pier, 399));
    all.add(x.blame(pier));
    all.add(x.truth(pier, 0));
  }

  /** One bed, one pier of width 10, foot 5, 5 piles; flow 50 on days 0, 1, 2: the goal of A is 5 A. */
  static RiverFeet river() {
    RiverFeet x = new RiverFeet();
    x.bed();
    x.pier(0, 10, 200, 5, 5);
    x.flows(0, 2, 3, 50, 0);
    return x;
  }

  /** One bed, one pier of width 20 and rock 200: by minds 32 .. 39 (A 5, B 0 .. 7) its goal on a day is the day's flow. */
  static RiverFeet flood(int foot, int piles, int... flows) {
    RiverFeet x = new RiverFeet();
    x.bed();
    x.pier(0, 20, 200, foot, piles);
    for (int day = 0; day < flows.length; day++) x.flows(day, 2, 1, flows[day], 0);
    return x;
  }

  /** A pier of width 10 whose minds differ in A and B behind these flows. */
  static RiverFeet mixed(int foot, int piles, int... flows) {
    RiverFeet x = new RiverFeet();
    x.bed();
    x.pier(0, 10, 200, foot, piles);
    for (int day = 0; day < flows.length; day++) x.flows(day, 2, 1, flows[day], 0);
    return x;
  }

  /** Something of each kind has been told, and there is room for more of each. */
  static RiverFeet busy() {
    RiverFeet x = new RiverFeet();
    x.bed();
    x.bed();
    x.pier(0, 10, 200, 5, 5);
    x.pier(0, 20, 150, 9, 4);
    x.pier(1, 7, 90, 3, 30);
    x.flows(0, 2, 3, 50, 0);
    x.flows(399, 2, 1, 7, 0);
    x.tree(1, 1, 6);
    x.look(0, 2, 9, 5, 2);
    x.look(0, 3, 9, 6, 5);
    x.look(2, 2, 12, 9, 250);
    x.back(1, 300);
    x.as(200);
    x.prove(25, 0);
    x.prove(63, 39);
    x.bridge(5, 300);
    x.bridge(2, 7);
    x.truth(1, 9);
    x.offer(0, 30, 50);
    x.offer(2, 9, 20);
    x.ends(0, 3);
    return x;
  }

  /** Two piers of one bed, as in river(); a look bars all minds of the first, so that both quarrel from day 10 on. */
  static RiverFeet quarrel() {
    RiverFeet x = river();
    x.pier(0, 10, 200, 5, 5);
    x.as(9);
    x.ends(1, 2);
    x.as(10);
    x.look(0, 2, 100, 0, 10);
    return x;
  }

  /** Minds 11, 21 and 38 are kept: their holes are 5 on day 2, what was EVER is 8, 12 and 19. */
  static RiverFeet three(int foot, int piles) {
    RiverFeet x = mixed(foot, piles, 50, 50);
    x.look(0, 2, 5, 0, 2);
    return x;
  }
}
