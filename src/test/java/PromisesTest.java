import java.util.NoSuchElementException;

/** For each promise of the document: ordinary calls, the edges that it names, and calls that it refuses. */
public final class PromisesTest {
  private static int wrong = 0;
  private static int promise = 0;

  private static void due(String call, long got, long want) {
    if (got != want) {
      wrong++;
      System.out.println("promise " + promise + ": " + call + " answered " + got + ", due is " + want);
    }
  }
  private static void due(String call, boolean got, boolean want) { due(call, got ? 1 : 0, want ? 1 : 0); }

  private static void row(RiverFeet x, int... want) {
    due("count(9)", x.count(9), want.length);
    for (int i = 0; i < want.length; i++) {
      try {
        due("row(" + i + ")", x.row(i), want[i]);
      } catch (NoSuchElementException e) {
        wrong++;
        System.out.println("promise " + promise + ": row(" + i + ") threw, due is " + want[i]);
      }
    }
    noRow(x, want.length);
  }
  private static void noRow(RiverFeet x, int i) {
    boolean threw = false;
    try { x.row(i); } catch (NoSuchElementException e) { threw = true; }
    due("row(" + i + ") throws", threw, true);
  }

  /** One bed, one pier of width 10, foot 5, 5 piles; flow 50 on days 0, 1, 2: the goal of A is 5 A. */
  private static RiverFeet river() {
    RiverFeet x = new RiverFeet();
    x.bed();
    x.pier(0, 10, 200, 5, 5);
    x.flows(0, 2, 3, 50, 0);
    return x;
  }

  public static void main(String[] args) {
    newObject(); flows(); flow(); bed(); pier(); tree(); hole(); when(); kept(); minds(); shared();
    look(); back(); as(); bars(); weighs(); blame(); state(); ends(); share();
    worst(); deepest(); next(); plan(); settles(); prove(); check(); lay(); proof();
    bridge(); truth(); shut(); run(); best(); offer(); choose(); count(); rowOfNumbers();
    System.out.println(wrong == 0 ? "all answers are as due" : wrong + " answers are not as due");
    if (wrong != 0) System.exit(1);
  }

  private static void newObject() {
    promise = 1;
    RiverFeet x = new RiverFeet();
    for (int what = 0; what <= 10; what++) due("count(" + what + ")", x.count(what), what == 5 ? 399 : 0);
    for (int day = 0; day < 400; day++) due("flow(" + day + ")", x.flow(day), 0);
    row(x);
    due("choose(0, 0)", x.choose(0, 0), 0);
    row(x, 0, 0);
    RiverFeet y = new RiverFeet();
    x.bed();
    due("count(0) of another", y.count(0), 0);
    due("NONE", RiverFeet.NONE, -1);
  }

  private static void flows() {
    promise = 2;
    RiverFeet x = new RiverFeet();
    due("ints", x.flows(10, 2, 4, 97, 1), 4);
    for (int i = 0; i < 6; i++) due("flow(" + (9 + i) + ")", x.flow(9 + i), new int[] {0, 97, 98, 99, 99, 0}[i]);
    due("falling ints", x.flows(10, 2, 3, 1, -1), 3);
    for (int i = 0; i < 4; i++) due("flow(" + (10 + i) + ")", x.flow(10 + i), new int[] {1, 0, 0, 99}[i]);
    due("bytes", x.flows(20, 0, 4, 44, 128), 4);
    for (int i = 0; i < 4; i++) due("flow(" + (20 + i) + ")", x.flow(20 + i), new int[] {44, 0, 44, 0}[i]);
    due("bytes of 127", x.flows(20, 0, 2, 127, 1), 2);
    due("flow(20)", x.flow(20), 99);
    due("flow(21)", x.flow(21), 0);
    due("shorts", x.flows(30, 1, 4, 65536 + 42, 32768), 4);
    for (int i = 0; i < 4; i++) due("flow(" + (30 + i) + ")", x.flow(30 + i), new int[] {42, 0, 42, 0}[i]);
    due("shorts of 200", x.flows(30, 1, 1, 200, 0), 1);
    due("flow(30)", x.flow(30), 99);
    due("ints of 65578", x.flows(30, 2, 1, 65578, 0), 1);
    due("flow(30)", x.flow(30), 99);
    due("ints that wrap", x.flows(40, 2, 2, Integer.MAX_VALUE, 1), 2);
    due("flow(40)", x.flow(40), 99);
    due("flow(41)", x.flow(41), 0);
    due("the last days", x.flows(398, 2, 60, 7, 1), 60);
    due("flow(398)", x.flow(398), 7);
    due("flow(399)", x.flow(399), 8);
    due("none told", x.flows(10, 2, 0, 50, 0), 0);
    due("flow(10)", x.flow(10), 1);
    due("n -1", x.flows(10, 0, -1, 50, 0), -2);
    due("n least", x.flows(10, 2, Integer.MIN_VALUE, 50, 0), -2);
    due("missing", x.flows(10, 3, 5, 50, 0), -3);
    due("missing, n -1", x.flows(10, 3, -1, 50, 0), -3);
    due("missing, n 61", x.flows(10, 3, 61, 50, 0), -1);
    due("n 61", x.flows(10, 2, 61, 50, 0), -1);
    due("day 400", x.flows(400, 2, -1, 50, 0), -1);
    due("day -1", x.flows(-1, 3, 1, 50, 0), -1);
    due("kind 4", x.flows(10, 4, -1, 50, 0), -1);
    due("kind -1", x.flows(10, -1, 1, 50, 0), -1);
    due("flow(10)", x.flow(10), 1);
    RiverFeet y = river();
    due("hole", y.hole(0, 0, 2, 0), 5);
    y.look(0, 2, 5, 0, 2);
    due("minds", y.minds(0), 8);
    y.flows(2, 2, 1, 0, 0);
    due("hole, flows told again", y.hole(0, 0, 2, 0), 4);
    due("hole of day 1", y.hole(0, 0, 1, 0), 4);
    due("minds, flows told again", y.minds(0), 3);
    row(y, 11, 21, 38);
  }

  private static void flow() {
    promise = 3;
    RiverFeet x = new RiverFeet();
    x.flows(0, 2, 1, 5, 0);
    x.flows(399, 2, 1, 6, 0);
    due("flow(0)", x.flow(0), 5);
    due("flow(399)", x.flow(399), 6);
    due("flow(-1)", x.flow(-1), -1);
    due("flow(400)", x.flow(400), -1);
    due("flow(least)", x.flow(Integer.MIN_VALUE), -1);
  }

  private static void bed() {
    promise = 4;
    RiverFeet x = new RiverFeet();
    for (int i = 0; i < 4; i++) due("bed", x.bed(), i);
    due("a fifth bed", x.bed(), -1);
    due("count(0)", x.count(0), 4);
  }

  private static void pier() {
    promise = 5;
    RiverFeet x = new RiverFeet();
    due("no bed", x.pier(0, 1, 1, 0, 0), -1);
    x.bed();
    int[][] refused = {{-1, 1, 1, 0, 0}, {1, 1, 1, 0, 0}, {0, 0, 1, 0, 0}, {0, 21, 1, 0, 0}, {0, 1, 0, 0, 0}, {0, 1, 201, 0, 0},
        {0, 1, 1, -1, 0}, {0, 1, 1, 100, 0}, {0, 1, 1, 0, -1}, {0, 1, 1, 0, 100}};
    for (int[] r : refused) due(java.util.Arrays.toString(r), x.pier(r[0], r[1], r[2], r[3], r[4]), -1);
    due("count(1)", x.count(1), 0);
    due("the least", x.pier(0, 1, 1, 0, 0), 0);
    due("the greatest", x.pier(0, 20, 200, 99, 99), 1);
    for (int i = 2; i < 8; i++) due("pier", x.pier(0, 5, 50, 5, 5), i);
    due("a ninth pier", x.pier(0, 5, 50, 5, 5), -1);
    due("count(1)", x.count(1), 8);
    due("hole of the eighth", x.hole(7, 63, 399, 0), 0);
    due("hole of a ninth", x.hole(8, 63, 399, 0), -1);
  }

  private static void tree() {
    promise = 6;
    RiverFeet x = river();
    x.pier(0, 10, 200, 5, 5);
    due("hole", x.hole(0, 0, 2, 0), 5);
    due("tree", x.tree(0, 1, 10), 1);
    due("goal ahead", x.hole(0, 0, 0, 2), 5);
    due("goal", x.hole(0, 0, 1, 2), 10);
    due("hole", x.hole(0, 0, 1, 0), 7);
    due("goal of the other pier", x.hole(1, 0, 1, 2), 5);
    due("a second", x.tree(0, 2, 20), 2);
    due("goal", x.hole(0, 0, 1, 2), 10);
    due("goal", x.hole(0, 0, 2, 2), 20);
    due("another pier", x.tree(1, 0, 1), 3);
    due("goal", x.hole(1, 8, 0, 2), 11);
    due("no pier", x.tree(2, 0, 1), -1);
    due("pier -1", x.tree(-1, 0, 1), -1);
    due("day -1", x.tree(0, -1, 1), -1);
    due("day 400", x.tree(0, 400, 1), -1);
    due("0 wider", x.tree(0, 0, 0), -1);
    due("21 wider", x.tree(0, 0, 21), -1);
    for (int i = 4; i <= 20; i++) due("tree", x.tree(0, 399, 1), i);
    due("a 21st", x.tree(1, 0, 1), -1);
    due("count(2)", x.count(2), 20);
  }

  private static void hole() {
    promise = 7;
    RiverFeet x = river();
    int[][] holes = {{3, 4, 5}, {5, 8, 9}, {8, 12, 14}, {10, 15, 18}, {13, 19, 22}, {15, 23, 27}, {18, 27, 31}, {20, 30, 35}};
    for (int mind = 0; mind < 64; mind++) {
      for (int day = 2; day >= 0; day--) {
        int hole = holes[mind / 8][day];
        due("hole", x.hole(0, mind, day, 0), hole);
        due("ever", x.hole(0, mind, day, 1), hole);
        due("goal", x.hole(0, mind, day, 2), 5 * (mind / 8 + 1));
        due("state", x.hole(0, mind, day, 3), hole <= 5 ? 0 : hole <= 10 ? 1 : 2);
      }
      int filled = holes[mind / 8][2] * (mind % 8) / 8;
      due("hole that fills", x.hole(0, mind, 3, 0), holes[mind / 8][2] - filled);
      due("ever that stays", x.hole(0, mind, 3, 1), holes[mind / 8][2]);
      due("goal without flow", x.hole(0, mind, 3, 2), 0);
    }
    due("filled by 7", x.hole(0, 63, 399, 0), 1);
    due("filled by 0", x.hole(0, 56, 399, 0), 35);
    x.pier(0, 20, 30, 30, 0);
    x.flows(0, 2, 20, 99, 0);
    due("goal at rock", x.hole(1, 63, 5, 2), 30);
    due("hole at rock", x.hole(1, 63, 19, 0), 30);
    due("state at rock", x.hole(1, 63, 19, 3), 0);
    int[][] refused = {{-1, 0, 0, 0}, {2, 0, 0, 0}, {0, -1, 0, 0}, {0, 64, 0, 0}, {0, 0, -1, 0}, {0, 0, 400, 0}, {0, 0, 0, -1}, {0, 0, 0, 4}};
    for (int[] r : refused) due(java.util.Arrays.toString(r), x.hole(r[0], r[1], r[2], r[3]), -1);
  }

  private static void when() {
    promise = 8;
    RiverFeet x = river();
    due("A 1 never", x.when(0, 0, 0), -1);
    due("A 2 hangs on day 1", x.when(0, 8, 0), 1);
    due("A 2 never falls", x.when(0, 8, 1), -1);
    due("A 3 hangs on day 0", x.when(0, 16, 0), 0);
    due("A 3 falls on day 1", x.when(0, 16, 1), 1);
    due("A 8 falls on day 0", x.when(0, 63, 1), 0);
    x.flows(399, 2, 1, 99, 0);
    due("A 2, B 0 falls on day 399", x.when(0, 8, 1), 399);
    due("no pier", x.when(1, 0, 0), -1);
    due("mind 64", x.when(0, 64, 0), -1);
    due("mind -1", x.when(0, -1, 0), -1);
    due("what 2", x.when(0, 63, 2), -1);
    due("what -1", x.when(0, 63, -1), -1);
  }

  private static void kept() {
    promise = 9;
    RiverFeet x = river();
    x.pier(0, 10, 200, 5, 5);
    x.bed();
    x.pier(1, 10, 200, 5, 5);
    x.look(0, 2, 9, 0, 3);
    due("kept", x.kept(0, 8), 1);
    due("barred", x.kept(0, 0), 0);
    due("kept beside it", x.kept(1, 15), 1);
    due("free beside it", x.kept(1, 16), 2);
    due("in another bed", x.kept(2, 16), 1);
    x.look(1, 2, 14, 0, 3);
    due("free, the other has none", x.kept(0, 8), 2);
    due("free, the other has none", x.kept(1, 16), 2);
    x.as(2);
    due("nothing known", x.kept(0, 0), 1);
    due("no pier", x.kept(3, 0), -1);
    due("mind 64", x.kept(0, 64), -1);
    due("mind -1", x.kept(0, -1), -1);
  }

  private static void minds() {
    promise = 10;
    RiverFeet x = river();
    due("all", x.minds(0), 64);
    due("count(9)", x.count(9), 64);
    due("row(63)", x.row(63), 63);
    noRow(x, 64);
    x.look(0, 3, 5, 0, 3);
    due("some", x.minds(0), 5);
    row(x, 0, 1, 12, 30, 63);
    x.look(0, 2, 50, 0, 3);
    due("none", x.minds(0), 0);
    row(x);
    x.as(2);
    x.minds(0);
    due("no pier", x.minds(1), -1);
    due("pier -1", x.minds(-1), -1);
    due("count(9)", x.count(9), 64);
  }

  private static void shared() {
    promise = 11;
    RiverFeet x = river();
    x.bed();
    due("all", x.shared(0), 255);
    due("no piers", x.shared(1), 255);
    x.pier(0, 20, 200, 5, 5);
    x.look(0, 2, 7, 2, 2);
    due("A 1, 2", x.shared(0), 3);
    x.look(1, 2, 20, 2, 2);
    due("A 2", x.shared(0), 2);
    x.look(1, 2, 100, 2, 2);
    due("none", x.shared(0), 0);
    due("no piers", x.shared(1), 255);
    x.as(1);
    due("nothing known", x.shared(0), 255);
    due("no bed", x.shared(2), -1);
    due("bed -1", x.shared(-1), -1);
  }

  private static void look() {
    promise = 12;
    RiverFeet x = river();
    int[][] refused = {{1, 2, 5, 0, 2}, {-1, 2, 5, 0, 2}, {0, -1, 5, 0, 2}, {0, 400, 5, 0, 400}, {0, 400, 5, 0, 399}, {0, 2, -1, 0, 2},
        {0, 2, 201, 0, 2}, {0, 2, 5, -1, 2}, {0, 2, 5, 51, 2}, {0, 2, 5, 0, 1}, {0, 2, 5, 0, 400}, {0, 2, 5, 0, -1}};
    for (int[] r : refused) due(java.util.Arrays.toString(r), x.look(r[0], r[1], r[2], r[3], r[4]), -1);
    due("count(3)", x.count(3), 0);
    due("the least", x.look(0, 0, 0, 0, 0), 0);
    due("the greatest", x.look(0, 399, 200, 50, 399), 1);
    for (int i = 2; i < 40; i++) due("look", x.look(0, 2, 5, 0, 2), i);
    due("a 41st", x.look(0, 2, 5, 0, 2), -1);
    due("count(3)", x.count(3), 40);
  }

  private static void back() {
    promise = 13;
    RiverFeet x = river();
    x.look(0, 2, 5, 0, 10);
    x.look(0, 2, 9, 0, 20);
    due("back", x.back(1, 30), true);
    int[][] days = {{9, 64}, {10, 8}, {19, 8}, {20, 0}, {29, 0}, {30, 8}, {399, 8}};
    for (int[] d : days) { x.as(d[0]); due("minds as " + d[0], x.minds(0), d[1]); }
    due("told again, later", x.back(1, 399), true);
    x.as(398);
    due("minds", x.minds(0), 0);
    due("told again, sooner", x.back(1, 0), true);
    due("minds", x.minds(0), 8);
    x.as(20);
    due("minds", x.minds(0), 8);
    due("no look", x.back(2, 0), false);
    due("look -1", x.back(-1, 0), false);
    due("day 400", x.back(0, 400), false);
    due("day -1", x.back(0, -1), false);
    due("minds", x.minds(0), 8);
    due("count(3)", x.count(3), 2);
  }

  private static void as() {
    promise = 14;
    RiverFeet x = new RiverFeet();
    due("as(5)", x.as(5), 399);
    due("as(0)", x.as(0), 5);
    due("as(399)", x.as(399), 0);
    due("as(400)", x.as(400), -1);
    due("as(-1)", x.as(-1), -1);
    due("as(7)", x.as(7), 399);
    due("count(5)", x.count(5), 7);
  }

  private static void bars() {
    promise = 15;
    RiverFeet x = river();
    x.look(0, 2, 5, 0, 2);
    x.look(0, 2, 7, 2, 2);
    x.look(0, 2, 7, 1, 2);
    x.look(0, 0, 0, 50, 0);
    due("one A left", x.bars(0), 56);
    due("two A left", x.bars(1), 48);
    due("just too far", x.bars(2), 64);
    due("none barred", x.bars(3), 0);
    x.as(0);
    due("not known", x.bars(0), 56);
    x.back(0, 0);
    due("taken back", x.bars(0), 56);
    due("no look", x.bars(4), -1);
    due("look -1", x.bars(-1), -1);
  }

  private static void weighs() {
    promise = 16;
    RiverFeet x = river();
    x.pier(0, 10, 200, 5, 5);
    x.look(0, 2, 5, 0, 2);
    due("alone", x.weighs(0), 56);
    x.look(0, 2, 7, 2, 3);
    due("with another", x.weighs(0), 8);
    due("nothing more", x.weighs(1), 0);
    x.look(1, 2, 50, 0, 2);
    due("another pier's", x.weighs(2), 64);
    due("free, not kept", x.weighs(0), 8);
    x.as(2);
    due("the other not known", x.weighs(0), 56);
    due("not known", x.weighs(1), -1);
    x.back(0, 2);
    due("taken back", x.weighs(0), -1);
    due("no look", x.weighs(3), -1);
    due("look -1", x.weighs(-1), -1);
  }

  private static void blame() {
    promise = 17;
    RiverFeet x = river();
    x.pier(0, 10, 200, 5, 5);
    due("none told", x.blame(0), 0);
    row(x, 0);
    x.look(0, 2, 9, 0, 2);
    x.look(1, 2, 50, 0, 2);
    x.look(0, 2, 14, 0, 2);
    x.look(0, 1, 13, 1, 2);
    due("one", x.blame(0), 1);
    row(x, 16, 0);
    due("at the other pier", x.blame(1), 1);
    row(x, 0, 1);
    x.look(0, 0, 5, 0, 2);
    due("two", x.blame(0), 2);
    row(x, 8, 2, 3);
    x.back(3, 300);
    due("one taken back", x.blame(0), 1);
    row(x, 8, 2);
    x.as(1);
    due("none known", x.blame(0), 0);
    row(x, 0);
    due("no pier", x.blame(2), -1);
    due("pier -1", x.blame(-1), -1);
    row(x, 0);
    RiverFeet y = river();
    int[] all = new int[41];
    for (int i = 0; i < 40; i++) all[i + 1] = y.look(0, 2, 200, 0, 2);
    due("forty", y.blame(0), 40);
    row(y, all);
  }

  private static void state() {
    promise = 18;
    RiverFeet x = river();
    due("open", x.state(0, 0), 3);
    x.look(0, 2, 9, 0, 20);
    due("stands", x.state(0, 0), 0);
    due("hangs", x.state(0, 1), 1);
    due("hangs", x.state(0, 399), 1);
    x.back(0, 0);
    x.look(0, 2, 14, 0, 30);
    due("hangs", x.state(0, 0), 1);
    due("falls", x.state(0, 1), 2);
    x.as(29);
    due("open", x.state(0, 1), 3);
    x.as(399);
    x.look(0, 2, 50, 0, 30);
    due("quarrels", x.state(0, 1), 4);
    due("no pier", x.state(1, 0), -1);
    due("pier -1", x.state(-1, 0), -1);
    due("day 400", x.state(0, 400), -1);
    due("day -1", x.state(0, -1), -1);
  }

  private static void ends() {
    promise = 19;
    RiverFeet x = river();
    due("all", x.ends(0, 2), 64);
    row(x, 5, 35, 5, 35);
    due("all, a day on", x.ends(0, 3), 64);
    row(x, 1, 35, 5, 35);
    x.look(0, 2, 7, 2, 2);
    due("two A", x.ends(0, 3), 16);
    row(x, 1, 9, 5, 9);
    due("no pier", x.ends(1, 0), -1);
    due("day 400", x.ends(0, 400), -1);
    due("day -1", x.ends(0, -1), -1);
    x.look(0, 2, 50, 0, 2);
    due("quarrels", x.ends(0, 3), -1);
    row(x, 1, 9, 5, 9);
  }

  private static void share() {
    promise = 20;
    RiverFeet x = river();
    due("stand", x.share(0, 0, 0), 250);
    due("fallen", x.share(0, 0, 1), 500);
    due("stand", x.share(0, 2, 0), 125);
    due("fallen", x.share(0, 2, 1), 750);
    x.look(0, 2, 10, 5, 2);
    due("stand, cut", x.share(0, 2, 0), 333);
    due("fallen, cut", x.share(0, 2, 1), 333);
    due("question 2", x.share(0, 2, 2), -1);
    due("question -1", x.share(0, 2, -1), -1);
    due("day 400", x.share(0, 400, 0), -1);
    due("day -1", x.share(0, -1, 0), -1);
    due("no pier", x.share(1, 0, 0), -1);
    x.look(0, 2, 50, 0, 2);
    due("quarrels", x.share(0, 2, 0), -1);
  }

  private static void worst() {
    promise = 21;
    RiverFeet x = river();
    due("each A", x.worst(0, 2, 0), 8);
    due("errs 3", x.worst(0, 2, 3), 8);
    due("errs 4", x.worst(0, 2, 4), 24);
    due("errs 5", x.worst(0, 2, 5), 24);
    due("errs 50", x.worst(0, 2, 50), 64);
    // B 4 .. 7 fill all holes but 1
    due("all are filled", x.worst(0, 399, 0), 32);
    x.look(0, 2, 5, 0, 2);
    due("of those kept", x.worst(0, 3, 0), 2);
    due("nothing parted", x.worst(0, 2, 0), 8);
    due("errs 51", x.worst(0, 2, 51), -1);
    due("errs -1", x.worst(0, 2, -1), -1);
    due("day 400", x.worst(0, 400, 0), -1);
    due("day -1", x.worst(0, -1, 0), -1);
    due("no pier", x.worst(1, 2, 0), -1);
    x.look(0, 2, 50, 0, 2);
    due("quarrels", x.worst(0, 2, 0), -1);
  }

  /** A river whose eight A all come down to rock at 200: the deepest that a hole can be. */
  private static RiverFeet deepRiver() {
    RiverFeet x = new RiverFeet();
    x.bed();
    x.pier(0, 20, 200, 5, 5);
    for (int i = 0; i < 20; i++) x.tree(0, 0, 20);
    for (int day = 0; day < 400; day += 60) x.flows(day, 2, 60, 99, 0);
    return x;
  }

  private static void deepest() {
    RiverFeet x = deepRiver();
    due("goal at 200", x.hole(0, 0, 20, 2), 200);
    due("ends", x.ends(0, 20), 64);
    row(x, 200, 200, 200, 200);
    due("all at 200", x.worst(0, 20, 0), 64);
    due("all at 200, errs 50", x.worst(0, 20, 50), 64);
    x.flows(20, 2, 1, 0, 0);
    due("B 0 at 200, the others each B", x.worst(0, 20, 0), 8);
    due("errs 25", x.worst(0, 20, 25), 24);
    due("two looks", x.plan(0, 20, 1, 2, 2, 25), 24);
    RiverFeet y = new RiverFeet();
    y.bed();
    y.pier(0, 18, 200, 5, 5);
    y.tree(0, 0, 20);
    y.tree(0, 0, 3);
    int[] flows = {14, 83, 7, 68};
    for (int day = 0; day < 4; day++) y.flows(day, 2, 1, flows[day], 0);
    due("each mind another hole", y.worst(0, 3, 0), 1);
    due("one look tells all", y.plan(0, 3, 1, 1, 1, 0), 1);
    row(y, 3);
    x.look(0, 20, 200, 0, 20);
    due("B 0", x.minds(0), 8);
    row(x, 0, 8, 16, 24, 32, 40, 48, 56);
  }

  private static void next() {
    promise = 22;
    RiverFeet x = river();
    due("the first of equal ones", x.next(0, 0, 2, 0), 0);
    row(x, 8);
    x.look(0, 2, 5, 0, 2);
    due("of those kept", x.next(0, 0, 4, 0), 3);
    row(x, 2);
    due("one day", x.next(0, 1, 1, 0), 1);
    row(x, 8);
    due("the last", x.next(0, 399, 399, 0), 399);
    due("row(0)", x.row(0), x.worst(0, 399, 0));
    due("errs 50", x.next(0, 0, 399, 50), 0);
    row(x, 8);
    due("to below from", x.next(0, 2, 1, 0), -1);
    due("to 400", x.next(0, 2, 400, 0), -1);
    due("from -1", x.next(0, -1, 4, 0), -1);
    due("errs 51", x.next(0, 0, 4, 51), -1);
    due("errs -1", x.next(0, 0, 4, -1), -1);
    due("no pier", x.next(1, 0, 4, 0), -1);
    x.look(0, 2, 50, 0, 2);
    due("quarrels", x.next(0, 0, 4, 0), -1);
    row(x, 8);
  }

  private static void plan() {
    promise = 23;
    RiverFeet x = river();
    x.look(0, 2, 5, 0, 2);
    due("holes 5 5 4 4 3 2 2 1, then", x.plan(0, 3, 1, 1, 1, 0), 2);
    row(x, 3);
    due("nothing parts", x.plan(0, 0, 1, 3, 3, 0), 8);
    row(x, -1);
    due("the least first day", x.plan(0, 2, 1, 2, 1, 0), 2);
    row(x, 3);
    due("the first of equal ones", x.plan(0, 2, 1, 2, 2, 0), 2);
    row(x, 2);
    due("with the last day", x.plan(0, 399, 50, 1, 1, 50), 8);
    row(x, -1);
    due("with day 399", x.plan(0, 149, 50, 6, 3, 50), 8);
    int[][] refused = {{0, 150, 50, 6, 3, 0}, {0, -1, 1, 1, 1, 0}, {0, 400, 1, 1, 1, 0}, {0, 0, 0, 1, 1, 0}, {0, 0, 51, 1, 1, 0},
        {0, 0, 1, 0, 1, 0}, {0, 0, 1, 7, 1, 0}, {0, 0, 1, 1, 0, 0}, {0, 0, 1, 1, 4, 0}, {0, 0, 1, 1, 1, -1}, {0, 0, 1, 1, 1, 51},
        {1, 0, 1, 1, 1, 0}, {-1, 0, 1, 1, 1, 0}};
    for (int[] r : refused) due(java.util.Arrays.toString(r), x.plan(r[0], r[1], r[2], r[3], r[4], r[5]), -1);
    row(x, -1);
    x.look(0, 2, 50, 0, 2);
    due("quarrels", x.plan(0, 3, 1, 1, 1, 0), -1);
    // A on day 2, then B: the second look is chosen by what the first one saw
    RiverFeet y = river();
    due("one look", y.plan(0, 2, 1, 2, 1, 0), 6);
    row(y, 3);
    due("two looks", y.plan(0, 2, 1, 2, 2, 0), 2);
    row(y, 2);
    RiverFeet z = new RiverFeet();
    z.bed();
    z.pier(0, 10, 200, 16, 28);
    z.flows(0, 2, 2, 90, 20);
    z.flows(4, 2, 3, 60, -20);
    z.flows(8, 2, 2, 60, -30);
    due("k 1", z.plan(0, 0, 2, 6, 1, 2), 8);
    row(z, 0);
    due("k 2", z.plan(0, 0, 2, 6, 2, 2), 6);
    row(z, 0);
    due("k 3", z.plan(0, 0, 2, 6, 3, 2), 5);
    row(z, 0);
  }

  private static void settles() {
    promise = 24;
    RiverFeet x = river();
    due("A tells", x.settles(0, 0, 2, 0, 1, 1, 0), 1);
    due("A tells, far off", x.settles(0, 0, 2, 0, 1, 1, 50), -2);
    due("sure already", x.settles(0, 0, 399, 0, 1, 1, 0), 1);
    x.look(0, 2, 5, 0, 2);
    due("sure", x.settles(0, 0, 399, 0, 1, 1, 0), 0);
    due("sure", x.settles(0, 1, 399, 0, 1, 1, 50), 0);
    // of A 1 and 2, holes of 5 and 9 fill by B: on day 3 they mix, on day 2 they do not
    RiverFeet y = river();
    y.look(0, 2, 7, 2, 2);
    due("mixed", y.settles(0, 0, 2, 3, 1, 1, 0), -2);
    due("day 2 parts", y.settles(0, 0, 2, 2, 1, 2, 0), 1);
    int[][] refused = {{1, 0, 2, 0, 1, 1, 0}, {0, 2, 2, 0, 1, 1, 0}, {0, -1, 2, 0, 1, 1, 0}, {0, 0, 400, 0, 1, 1, 0}, {0, 0, -1, 0, 1, 1, 0},
        {0, 0, 2, -1, 1, 1, 0}, {0, 0, 2, 395, 1, 6, 0}, {0, 0, 2, 0, 0, 1, 0}, {0, 0, 2, 0, 51, 1, 0}, {0, 0, 2, 0, 1, 0, 0},
        {0, 0, 2, 0, 1, 7, 0}, {0, 0, 2, 0, 1, 1, -1}, {0, 0, 2, 0, 1, 1, 51}};
    for (int[] r : refused) due(java.util.Arrays.toString(r), y.settles(r[0], r[1], r[2], r[3], r[4], r[5], r[6]), -1);
    y.look(0, 2, 50, 0, 2);
    due("quarrels", y.settles(0, 0, 2, 0, 1, 1, 0), -1);
    row(y);
    RiverFeet z = new RiverFeet();
    z.bed();
    z.pier(0, 10, 200, 59, 19);
    z.flows(0, 2, 2, 90, -30);
    z.flows(4, 2, 3, 90, 0);
    z.flows(8, 2, 1, 30, -20);
    due("three", z.settles(0, 0, 12, 0, 2, 6, 5), 3);
  }

  private static void prove() {
    promise = 25;
    RiverFeet x = new RiverFeet();
    due("mind 64", x.prove(64, 0), -1);
    due("mind -1", x.prove(-1, 0), -1);
    due("look 40", x.prove(0, 40), -1);
    due("look -1", x.prove(0, -1), -1);
    due("count(6)", x.count(6), 0);
    for (int i = 1; i <= 64; i++) due("prove", x.prove(64 - i, 39), i);
    due("a 65th", x.prove(0, 0), -1);
    due("count(6)", x.count(6), 64);
    due("proof(63, 0)", x.proof(63, 0), 0);
    due("proof(0, 0)", x.proof(0, 0), 63);
  }

  private static void check() {
    promise = 26;
    RiverFeet x = river();
    x.pier(0, 10, 200, 5, 5);
    x.look(0, 2, 7, 2, 2);
    x.look(0, 2, 5, 0, 5);
    x.look(1, 2, 7, 2, 2);
    due("empty, not whole", x.check(0), 1);
    x.prove(8, 1); x.prove(16, 0);
    due("right alone", x.check(0), 1);
    due("count(6)", x.count(6), 0);
    x.prove(16, 0); x.prove(8, 0);
    due("does not bar", x.check(0), -2);
    x.prove(16, 0); x.prove(17, 1); x.prove(16, 1);
    due("twice", x.check(0), -3);
    x.prove(16, 2);
    due("another pier's", x.check(0), -1);
    x.prove(16, 3);
    due("no such look", x.check(0), -1);
    x.as(4);
    x.prove(8, 1);
    due("not known", x.check(0), -1);
    for (int m = 16; m < 64; m++) x.prove(m, 0);
    due("whole", x.check(0), 0);
    x.as(5);
    for (int m = 16; m < 64; m++) x.prove(m, 0);
    due("not whole now", x.check(0), 1);
    for (int m = 63; m >= 16; m--) x.prove(m, m % 2);
    for (int m = 8; m < 16; m++) x.prove(m, 1);
    due("whole in another order", x.check(0), 0);
    for (int m = 0; m < 64; m++) x.prove(m, 0);
    due("none ahead of the first", x.check(0), -1);
    for (int m = 63; m >= 0; m--) x.prove(m, 1);
    due("the 57th", x.check(0), -57);
    x.prove(16, 0);
    due("no pier", x.check(2), -100);
    due("count(6)", x.count(6), 0);
    due("pier -1", x.check(-1), -100);
    x.as(1);
    due("nothing to prove", x.check(0), 0);
  }

  private static void lay() {
    promise = 27;
    RiverFeet x = river();
    x.pier(0, 10, 200, 5, 5);
    x.look(0, 2, 7, 2, 9);
    x.look(1, 2, 5, 0, 2);
    x.look(0, 2, 5, 0, 5);
    x.prove(0, 39);
    due("lay", x.lay(0), 56);
    for (int i = 0; i < 56; i++) {
      due("proof(" + i + ", 0)", x.proof(i, 0), 8 + i);
      due("proof(" + i + ", 1)", x.proof(i, 1), i < 8 ? 2 : 0);
    }
    due("no pier", x.lay(2), -1);
    due("pier -1", x.lay(-1), -1);
    due("count(6)", x.count(6), 56);
    due("check", x.check(0), 0);
    x.as(8);
    due("by what is known", x.lay(0), 56);
    due("proof(20, 1)", x.proof(20, 1), 2);
    due("check", x.check(0), 0);
    x.look(0, 2, 50, 0, 2);
    due("all minds", x.lay(0), 64);
    due("proof(0, 1)", x.proof(0, 1), 3);
    due("proof(8, 1)", x.proof(8, 1), 2);
    due("full", x.prove(0, 0), -1);
    due("check", x.check(0), 0);
    x.as(0);
    x.prove(0, 0);
    due("none", x.lay(0), 0);
    due("count(6)", x.count(6), 0);
  }

  private static void proof() {
    promise = 28;
    RiverFeet x = new RiverFeet();
    due("none", x.proof(0, 0), -1);
    x.prove(3, 7);
    x.prove(5, 39);
    due("proof(0, 0)", x.proof(0, 0), 3);
    due("proof(0, 1)", x.proof(0, 1), 7);
    due("proof(1, 0)", x.proof(1, 0), 5);
    due("proof(1, 1)", x.proof(1, 1), 39);
    due("proof(2, 0)", x.proof(2, 0), -1);
    due("proof(-1, 0)", x.proof(-1, 0), -1);
    due("proof(0, 2)", x.proof(0, 2), -1);
    due("proof(0, -1)", x.proof(0, -1), -1);
    x.check(0);
    due("emptied", x.proof(0, 0), -1);
  }

  private static void bridge() {
    promise = 29;
    RiverFeet x = new RiverFeet();
    due("no piers", x.bridge(1, 0), -1);
    due("none", x.bridge(0, 0), -1);
    x.bed();
    for (int i = 0; i < 8; i++) x.pier(0, 10, 200, 5, 5);
    due("none", x.bridge(0, 0), -1);
    due("a ninth", x.bridge(256, 0), -1);
    due("a ninth and others", x.bridge(257, 0), -1);
    due("bits below 0", x.bridge(-1, 0), -1);
    due("least bits", x.bridge(Integer.MIN_VALUE, 0), -1);
    due("traffic -1", x.bridge(1, -1), -1);
    due("traffic 1000", x.bridge(1, 1000), -1);
    due("one", x.bridge(128, 0), 0);
    due("all", x.bridge(255, 999), 1);
    due("again", x.bridge(128, 5), 2);
    due("a fourth", x.bridge(3, 5), 3);
    due("a fifth", x.bridge(3, 5), -1);
    due("count(7)", x.count(7), 4);
  }

  private static void truth() {
    promise = 30;
    RiverFeet x = river();
    x.pier(0, 10, 200, 5, 5);
    due("truth", x.truth(0, 63), 0);
    due("truth", x.truth(0, 7), 63);
    due("of the other", x.truth(1, 5), 0);
    due("mind 64", x.truth(0, 64), -1);
    due("mind -1", x.truth(0, -1), -1);
    due("no pier", x.truth(2, 0), -1);
    due("pier -1", x.truth(-1, 0), -1);
    due("truth", x.truth(0, 0), 7);
  }

  private static void shut() {
    promise = 31;
    RiverFeet x = river();
    x.pier(0, 10, 200, 99, 99);
    x.bed();
    x.pier(1, 20, 200, 19, 0);
    x.bridge(1, 1); x.bridge(2, 1); x.bridge(7, 1);
    due("750 do not stand", x.shut(0, 0, 749), 1);
    due("750 do not stand", x.shut(0, 0, 750), 0);
    due("all stand", x.shut(1, 2, 0), 0);
    due("of the worst pier", x.shut(2, 0, 749), 1);
    due("of the worst pier", x.shut(2, 0, 750), 0);
    due("as pier 2 is no worse", x.shut(2, 2, 875), 0);
    x.look(0, 2, 10, 5, 2);
    due("667 of 1000", x.shut(0, 2, 666), 1);
    due("667 of 1000", x.shut(0, 2, 667), 0);
    // minds 11, 21 and 38 are left, EVER 8, 12 and 19
    RiverFeet y = new RiverFeet();
    y.bed();
    y.pier(0, 10, 200, 12, 5);
    y.flows(0, 2, 2, 50, 0);
    y.look(0, 2, 5, 0, 2);
    y.bridge(1, 1);
    due("1 of 3", y.shut(0, 2, 333), 1);
    due("1 of 3", y.shut(0, 2, 334), 0);
    due("not known yet", x.shut(0, 1, 874), 1);
    x.as(1);
    due("as has no part in it", x.shut(0, 2, 667), 0);
    x.look(0, 2, 14, 0, 20);
    due("all have fallen", x.shut(0, 20, 999), 1);
    due("all have fallen", x.shut(0, 20, 1000), 0);
    x.look(0, 2, 50, 0, 30);
    due("quarrels", x.shut(0, 30, 1000), 1);
    due("quarrels by its bed", x.shut(1, 30, 1000), 1);
    due("a pier of it quarrels", x.shut(2, 30, 1000), 1);
    due("not yet", x.shut(1, 29, 1000), 0);
    x.back(2, 40);
    due("taken back", x.shut(1, 40, 0), 0);
    due("no bridge", x.shut(3, 0, 0), -1);
    due("bridge -1", x.shut(-1, 0, 0), -1);
    due("day 400", x.shut(0, 400, 0), -1);
    due("day -1", x.shut(0, -1, 0), -1);
    due("p 1001", x.shut(0, 0, 1001), -1);
    due("p -1", x.shut(0, 0, -1), -1);
  }

  private static void run() {
    promise = 32;
    RiverFeet x = river();
    x.pier(0, 10, 200, 99, 99);
    x.bridge(3, 100);
    due("all shut, all false", x.run(0, 0, 9, 0), 10);
    row(x, 0, 10, 1000);
    due("all open, none late", x.run(0, 0, 9, 1000), 0);
    row(x, 0, 0, 0);
    x.truth(0, 8);
    due("hangs from day 1 on", x.run(0, 0, 9, 0), 10);
    row(x, 0, 1, 1000);
    due("all open, none late", x.run(0, 0, 9, 1000), 0);
    row(x, 0, 0, 0);
    x.truth(0, 16);
    due("falls on day 1", x.run(0, 0, 9, 1000), 0);
    row(x, 9, 0, 0);
    due("day 0 open", x.run(0, 0, 9, 800), 9);
    row(x, 0, 0, 900);
    due("60 days", x.run(0, 340, 399, 0), 60);
    row(x, 0, 0, 6000);
    due("61 days", x.run(0, 0, 60, 0), -1);
    due("to below from", x.run(0, 2, 1, 0), -1);
    due("from -1", x.run(0, -1, 1, 0), -1);
    due("to 400", x.run(0, 399, 400, 0), -1);
    due("p -1", x.run(0, 0, 1, -1), -1);
    due("p 1001", x.run(0, 0, 1, 1001), -1);
    due("no bridge", x.run(1, 0, 1, 0), -1);
    due("bridge -1", x.run(-1, 0, 1, 0), -1);
    due("far apart", x.run(0, Integer.MIN_VALUE, Integer.MAX_VALUE, 0), -1);
    row(x, 0, 0, 6000);
  }

  private static void best() {
    promise = 33;
    RiverFeet x = river();
    x.bridge(1, 10);
    due("never late: the greatest", x.best(0, 0, 9, 9999), 1000);
    row(x, 0);
    x.truth(0, 16);
    due("day 0 open, nine shut", x.best(0, 0, 9, 50), 800);
    row(x, 90);
    due("equal: the greatest", x.best(0, 0, 9, 10), 1000);
    row(x, 90);
    due("light", x.best(0, 0, 9, 9), 1000);
    row(x, 81);
    due("heavy", x.best(0, 0, 9, 11), 800);
    row(x, 90);
    x.truth(0, 63);
    due("late from day 0 on", x.best(0, 0, 9, 9999), 700);
    row(x, 100);
    due("weight 10000", x.best(0, 0, 9, 10000), -1);
    due("weight -1", x.best(0, 0, 9, -1), -1);
    due("61 days", x.best(0, 0, 60, 0), -1);
    due("to below from", x.best(0, 2, 1, 0), -1);
    due("to 400", x.best(0, 399, 400, 0), -1);
    due("from -1", x.best(0, -1, 1, 0), -1);
    due("no bridge", x.best(1, 0, 1, 0), -1);
    due("bridge -1", x.best(-1, 0, 1, 0), -1);
    row(x, 100);
    due("60 days", x.best(0, 340, 399, 0), 1000);
    row(x, 0);
  }

  private static void offer() {
    promise = 34;
    RiverFeet x = river();
    due("no pier", x.offer(1, 1, 1), -1);
    due("pier -1", x.offer(-1, 1, 1), -1);
    due("0 more", x.offer(0, 0, 1), -1);
    due("100 more", x.offer(0, 100, 1), -1);
    due("cost 0", x.offer(0, 1, 0), -1);
    due("cost 1000", x.offer(0, 1, 1000), -1);
    due("count(8)", x.count(8), 0);
    due("the least", x.offer(0, 1, 1), 1);
    due("the greatest", x.offer(0, 99, 999), 2);
    for (int i = 3; i <= 10; i++) due("offer", x.offer(0, 1, 1), i);
    due("an 11th", x.offer(0, 1, 1), -1);
    due("count(8)", x.count(8), 10);
  }

  private static void choose() {
    promise = 35;
    RiverFeet x = river();
    x.bed();
    x.pier(1, 20, 200, 5, 5);
    due("ever of the first", x.hole(0, 63, 2, 1), 35);
    due("ever of the second", x.hole(1, 63, 2, 1), 70);
    x.offer(0, 20, 7); x.offer(0, 5, 3); x.offer(0, 25, 10); x.offer(1, 60, 10); x.offer(1, 59, 1);
    due("nothing", x.choose(0, 2), 0);
    row(x, 0, 0);
    due("too little", x.choose(9, 2), 0);
    row(x, 0, 0);
    due("equal: the least bits", x.choose(10, 2), 1);
    row(x, 3, 10);
    due("both", x.choose(20, 2), 2);
    row(x, 11, 20);
    due("no more than it needs", x.choose(9999, 2), 2);
    row(x, 11, 20);
    x.look(0, 2, 50, 0, 20);
    due("one quarrels", x.choose(9999, 2), 1);
    row(x, 8, 10);
    x.as(19);
    due("not yet", x.choose(9999, 2), 2);
    row(x, 11, 20);
    x.offer(0, 25, 9);
    due("cheaper, though later", x.choose(9999, 2), 2);
    row(x, 40, 19);
    due("on day 0 fewer piles do", x.choose(7, 0), 1);
    row(x, 16, 1);
    due("money -1", x.choose(-1, 2), -1);
    due("money 10000", x.choose(10000, 2), -1);
    due("day 400", x.choose(0, 400), -1);
    due("day -1", x.choose(0, -1), -1);
    row(x, 16, 1);
    RiverFeet y = new RiverFeet();
    y.bed();
    y.pier(0, 20, 200, 99, 99);
    due("sure without", y.choose(0, 399), 1);
    row(y, 0, 0);
    y.pier(0, 20, 200, 0, 0);
    due("no hole, no foot", y.choose(0, 399), 2);
    RiverFeet z = new RiverFeet();
    z.bed();
    z.pier(0, 20, 200, 5, 3);
    z.flows(0, 2, 3, 50, 0);
    z.look(0, 2, 9, 0, 2);
    z.look(0, 3, 9, 0, 3);
    due("mind 0 alone", z.minds(0), 1);
    row(z, 0);
    due("it falls", z.choose(0, 3), 0);
    z.offer(0, 1, 1);
    due("a pile more", z.choose(1, 3), 1);
    row(z, 1, 1);
  }

  private static void count() {
    promise = 36;
    RiverFeet x = river();
    x.bed();
    x.pier(0, 10, 200, 5, 5);
    x.pier(1, 10, 200, 5, 5);
    x.tree(0, 300, 1); x.tree(1, 300, 1); x.tree(1, 300, 1); x.tree(1, 300, 1);
    x.look(0, 2, 50, 0, 10); x.look(0, 2, 50, 0, 20); x.look(0, 2, 50, 0, 30); x.look(0, 2, 50, 0, 40); x.look(0, 2, 50, 0, 50);
    x.back(0, 25);
    for (int i = 0; i < 6; i++) x.prove(0, 0);
    x.bridge(1, 1);
    for (int i = 0; i < 7; i++) x.offer(0, 1, 1);
    x.as(9);
    x.minds(0);
    x.as(30);
    int[] want = {2, 3, 4, 5, 2, 30, 6, 1, 7, 64, 2};
    for (int i = 0; i < want.length; i++) due("count(" + i + ")", x.count(i), want[i]);
    due("count(-1)", x.count(-1), -1);
    due("count(11)", x.count(11), -1);
    due("count(least)", x.count(Integer.MIN_VALUE), -1);
    x.as(9);
    due("count(4)", x.count(4), 0);
    due("count(10)", x.count(10), 0);
  }

  private static void rowOfNumbers() {
    promise = 37;
    RiverFeet x = river();
    noRow(x, 0);
    x.ends(0, 2);
    row(x, 5, 35, 5, 35);
    noRow(x, -1);
    noRow(x, Integer.MIN_VALUE);
    noRow(x, Integer.MAX_VALUE);
    x.worst(0, 2, 0); x.state(0, 2); x.share(0, 2, 0); x.settles(0, 0, 2, 0, 1, 1, 0); x.lay(0); x.check(0); x.shared(0);
    x.look(0, 2, 5, 0, 2); x.bars(0); x.weighs(0); x.truth(0, 5); x.bridge(1, 1); x.shut(0, 0, 0); x.offer(0, 1, 1);
    row(x, 5, 35, 5, 35);
    x.next(0, 0, 2, 0);
    row(x, 8);
  }
}
