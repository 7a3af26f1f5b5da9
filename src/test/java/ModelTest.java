import java.util.NoSuchElementException;
import java.util.Random;

/** Random runs of at most 512 calls (always the same ones), each answer and each row held against Model. */
public final class ModelTest {
  private static final int[] EDGES = {Integer.MIN_VALUE, -2, -1, 0, 1, 2, 3, 4, 7, 8, 20, 21, 39, 40, 50, 51, 60, 61, 63, 64,
      99, 100, 200, 201, 399, 400, 999, 1000, 1001, 9999, 10000, Integer.MAX_VALUE};
  private static int wrong = 0;
  private final Random random;
  private final long seed;
  private final RiverFeet feet = new RiverFeet();
  private final Model model = new Model();
  private final int span;
  private final boolean wild;
  private int calls = 0;

  private ModelTest(long seed) {
    this.seed = seed;
    random = new Random(seed);
    int kind = random.nextInt(4);
    span = kind == 0 ? 400 : kind == 1 ? 60 : 15;
    wild = random.nextInt(3) == 0;
  }

  public static void main(String[] args) {
    int runs = args.length > 0 ? Integer.parseInt(args[0]) : 150;
    long from = args.length > 1 ? Long.parseLong(args[1]) : 1;
    for (long seed = from; seed < from + runs && wrong < 20; seed++) new ModelTest(seed).go();
    System.out.println(wrong == 0 ? "all answers are as the model's" : wrong + " answers are not as the model's");
    if (wrong != 0) System.exit(1);
  }

  private void go() {
    begin();
    while (calls < 512) step();
  }

  private void due(String call, int got, int want) {
    calls++;
    if (got != want) say(call, "answered " + got + ", due is " + want);
    for (int i = -1; i <= model.row.size(); i++) dueRow(call, i);
    if (feet.count(9) != model.row.size()) say(call, "left a row of " + feet.count(9) + ", due is " + model.row.size());
  }
  private void dueRow(String call, int i) {
    String got, want;
    try { got = "" + feet.row(i); } catch (NoSuchElementException e) { got = "none"; }
    try { want = "" + model.row(i); } catch (NoSuchElementException e) { want = "none"; }
    if (!got.equals(want)) say(call, "left row(" + i + ") " + got + ", due is " + want);
  }
  private void say(String call, String what) {
    wrong++;
    if (wrong < 20) System.out.println("seed " + seed + ", call " + calls + ": " + call + " " + what);
  }

  private int upTo(int most) { return random.nextInt(most + 1); }
  private int edge() { return EDGES[random.nextInt(EDGES.length)]; }
  /** Mostly a number of least .. most, now and then one of the edges of something. */
  private int some(int least, int most) {
    return random.nextInt(40) == 0 ? edge() : least + upTo(Math.max(0, most - least));
  }
  private int day() { return some(0, span - 1); }
  private int pier() { return some(0, Math.max(0, model.piers.size() - 1)); }
  private int mind() { return some(0, 63); }
  private int errs() { return random.nextInt(3) == 0 ? some(0, 50) : some(0, 4); }

  private void begin() {
    int beds = 1 + upTo(2);
    for (int i = 0; i < beds; i++) due("bed", feet.bed(), model.bed());
    for (int i = 0; i < 2 + upTo(3); i++) tellPier();
    for (int i = 0; i < 1 + upTo(6); i++) tellFlows();
    for (int i = 0; i < upTo(3); i++) tellTree();
    for (int i = 0; i < upTo(4); i++) tellLook();
    for (int i = 0; i < 1 + upTo(2); i++) tellBridge();
    for (int p = 0; p < model.piers.size(); p++) tellTruth(p);
    for (int i = 0; i < upTo(6); i++) tellOffer();
  }

  private void tellPier() {
    int b = some(0, Math.max(0, model.beds - 1)), w = some(1, 20), r = random.nextInt(3) == 0 ? some(1, 200) : some(60, 200);
    int f = random.nextBoolean() ? some(0, 30) : some(0, 99), p = random.nextBoolean() ? some(0, 20) : some(0, 99);
    due("pier(" + b + ", " + w + ", " + r + ", " + f + ", " + p + ")", feet.pier(b, w, r, f, p), model.pier(b, w, r, f, p));
  }
  private void tellFlows() {
    int d = day(), k = random.nextInt(12) == 0 ? some(0, 3) : upTo(2), n = random.nextInt(15) == 0 ? some(-3, 62) : some(0, Math.min(60, span / 2));
    int f = random.nextInt(4) == 0 ? random.nextInt() : some(0, 120), s = random.nextInt(4) == 0 ? random.nextInt() : some(-10, 10);
    due("flows(" + d + ", " + k + ", " + n + ", " + f + ", " + s + ")", feet.flows(d, k, n, f, s), model.flows(d, k, n, f, s));
    int at = day();
    due("flow(" + at + ")", feet.flow(at), model.flow(at));
  }
  private void tellTree() {
    int p = pier(), d = day(), w = some(1, 20);
    due("tree(" + p + ", " + d + ", " + w + ")", feet.tree(p, d, w), model.tree(p, d, w));
  }
  private void tellLook() {
    int p = pier(), d = day(), e = errs(), k = some(Math.max(0, Math.min(399, d)), span - 1);
    int s = some(0, 200);
    if (!wild && model.pierIs(p) && model.day(d)) {
      int m = model.piers.get(p).bed() * 8 + 8 * upTo(1) + upTo(7);
      s = Math.max(0, model.story(p, m, d)[0] + upTo(Math.max(0, Math.min(20, e))) - e / 2);
    }
    due("look(" + p + ", " + d + ", " + s + ", " + e + ", " + k + ")", feet.look(p, d, s, e, k), model.look(p, d, s, e, k));
  }
  private void tellBridge() {
    int b = some(0, Math.max(1, (1 << model.piers.size()) - 1)), t = some(0, 999);
    due("bridge(" + b + ", " + t + ")", feet.bridge(b, t), model.bridge(b, t));
  }
  private void tellTruth(int p) {
    int m = mind();
    due("truth(" + p + ", " + m + ")", feet.truth(p, m), model.truth(p, m));
  }
  private void tellOffer() {
    int p = pier(), m = some(1, 99), c = some(1, 999);
    due("offer(" + p + ", " + m + ", " + c + ")", feet.offer(p, m, c), model.offer(p, m, c));
  }

  private void step() {
    switch (random.nextInt(46)) {
      case 0: if (random.nextInt(3) == 0) tellFlows(); break;
      case 1: if (random.nextInt(8) == 0) due("bed", feet.bed(), model.bed()); break;
      case 2: if (random.nextInt(5) == 0) tellPier(); break;
      case 3: if (random.nextInt(3) == 0) tellTree(); break;
      case 4: if (random.nextInt(3) == 0) tellLook(); break;
      case 5: tellBridge(); break;
      case 6: tellTruth(pier()); break;
      case 7: tellOffer(); break;
      case 8: case 9: case 10: {
        int p = pier(), m = mind(), d = day(), w = some(0, 3);
        due("hole(" + p + ", " + m + ", " + d + ", " + w + ")", feet.hole(p, m, d, w), model.hole(p, m, d, w));
        break;
      }
      case 11: {
        int p = pier(), m = mind(), w = some(0, 1);
        due("when(" + p + ", " + m + ", " + w + ")", feet.when(p, m, w), model.when(p, m, w));
        break;
      }
      case 12: case 13: {
        int p = pier(), m = mind();
        due("kept(" + p + ", " + m + ")", feet.kept(p, m), model.kept(p, m));
        break;
      }
      case 14: { int p = pier(); due("minds(" + p + ")", feet.minds(p), model.minds(p)); break; }
      case 15: { int b = some(0, 3); due("shared(" + b + ")", feet.shared(b), model.shared(b)); break; }
      default: stepOfLooks(); break;
    }
  }

  private void stepOfLooks() {
    int p = pier(), d = day(), e = errs(), l = some(0, Math.max(0, model.looks.size() - 1)), q = some(0, 1);
    int from = some(0, span / 2), by = some(1, Math.max(1, Math.min(50, (span - 1 - span / 2) / 3))), many = some(1, 6);
    switch (random.nextInt(24)) {
      case 0: if (random.nextInt(3) == 0) due("back(" + l + ", " + d + ")", feet.back(l, d) ? 1 : 0, model.back(l, d) ? 1 : 0); break;
      case 1: due("as(" + d + ")", feet.as(d), model.as(d)); break;
      case 2: due("as(399)", feet.as(399), model.as(399)); break;
      case 3: due("bars(" + l + ")", feet.bars(l), model.bars(l)); break;
      case 4: due("weighs(" + l + ")", feet.weighs(l), model.weighs(l)); break;
      case 5: due("blame(" + p + ")", feet.blame(p), model.blame(p)); break;
      case 6: due("state(" + p + ", " + d + ")", feet.state(p, d), model.state(p, d)); break;
      case 7: due("ends(" + p + ", " + d + ")", feet.ends(p, d), model.ends(p, d)); break;
      case 8: due("share(" + p + ", " + d + ", " + q + ")", feet.share(p, d, q), model.share(p, d, q)); break;
      case 9: due("worst(" + p + ", " + d + ", " + e + ")", feet.worst(p, d, e), model.worst(p, d, e)); break;
      case 10: {
        int to = some(from, Math.min(399, from + 20));
        due("next(" + p + ", " + from + ", " + to + ", " + e + ")", feet.next(p, from, to, e), model.next(p, from, to, e));
        break;
      }
      case 11: case 12: {
        int k = some(1, 3);
        due("plan(" + p + ", " + from + ", " + by + ", " + many + ", " + k + ", " + e + ")",
            feet.plan(p, from, by, many, k, e), model.plan(p, from, by, many, k, e));
        break;
      }
      case 13: case 14:
        due("settles(" + p + ", " + q + ", " + d + ", " + from + ", " + by + ", " + many + ", " + e + ")",
            feet.settles(p, q, d, from, by, many, e), model.settles(p, q, d, from, by, many, e));
        break;
      case 15: stepOfProofs(p); break;
      case 16: stepOfProofs(p); break;
      default: stepOfWorks(); break;
    }
  }

  private void stepOfProofs(int p) {
    if (random.nextInt(3) > 0) due("lay(" + p + ")", feet.lay(p), model.lay(p));
    int more = upTo(3);
    for (int i = 0; i < more; i++) {
      int m = mind(), l = random.nextInt(4) == 0 ? some(0, 39) : some(0, Math.max(0, model.looks.size() - 1));
      due("prove(" + m + ", " + l + ")", feet.prove(m, l), model.prove(m, l));
    }
    for (int i = 0; i < 3; i++) {
      int at = some(0, model.proof.size()), w = some(0, 1);
      due("proof(" + at + ", " + w + ")", feet.proof(at, w), model.proof(at, w));
    }
    if (random.nextInt(3) > 0) due("check(" + p + ")", feet.check(p), model.check(p));
  }

  private void stepOfWorks() {
    int b = some(0, Math.max(0, model.bridges.size() - 1)), d = day(), share = some(0, 1000);
    int from = some(0, span - 1), to = some(from, Math.min(399, from + 20));
    switch (random.nextInt(6)) {
      case 0: due("shut(" + b + ", " + d + ", " + share + ")", feet.shut(b, d, share), model.shut(b, d, share)); break;
      case 1: due("run(" + b + ", " + from + ", " + to + ", " + share + ")", feet.run(b, from, to, share), model.run(b, from, to, share)); break;
      case 2: {
        int w = some(0, random.nextBoolean() ? 9999 : 999);
        due("best(" + b + ", " + from + ", " + to + ", " + w + ")", feet.best(b, from, to, w), model.best(b, from, to, w));
        break;
      }
      case 3: case 4: {
        int money = some(0, random.nextBoolean() ? 9999 : 1500);
        due("choose(" + money + ", " + d + ")", feet.choose(money, d), model.choose(money, d));
        break;
      }
      default: for (int w = -1; w <= 11; w++) due("count(" + w + ")", feet.count(w), model.count(w)); break;
    }
  }
}
