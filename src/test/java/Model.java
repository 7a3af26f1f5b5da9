import java.util.ArrayList;
import java.util.List;
import java.util.NoSuchElementException;
import java.util.TreeSet;

/**
 * The document once more, written as slowly and as near to its words as can be: nothing is kept
 * but what was told and the stories of minds, everything else is found anew at each call. ModelTest holds RiverFeet against it.
 */
final class Model {
  static final int NONE = -1;

  record Tree(int pier, int day, int wider) { }
  record Pier(int bed, int width, int rock, int foot, int piles) { }
  record Bridge(int piers, int traffic) { }
  record Offer(int pier, int more, int cost) { }
  static final class Look {
    int pier, day, seen, errs, known;
    Integer back = null;
  }

  final int[] flow = new int[400];
  int beds = 0;
  final List<Pier> piers = new ArrayList<>();
  final List<Tree> trees = new ArrayList<>();
  final List<Look> looks = new ArrayList<>();
  int as = 399;
  List<int[]> proof = new ArrayList<>();
  final List<Bridge> bridges = new ArrayList<>();
  final List<Integer> truth = new ArrayList<>();
  final List<Offer> offers = new ArrayList<>();
  List<Integer> row = new ArrayList<>();

  boolean day(int d) { return 0 <= d && d <= 399; }
  boolean pierIs(int p) { return 0 <= p && p < piers.size(); }
  boolean mindIs(int m) { return 0 <= m && m <= 63; }
  boolean lookIs(int l) { return 0 <= l && l < looks.size(); }

  int flows(int day, int kind, int n, int f, int step) {
    if (!day(day) || kind < 0 || kind > 3 || n > 60) return NONE;
    if (kind == 3) return -3;
    if (n < 0) return -2;
    stories = new int[8][64][][];
    for (int i = 0; i < n; i++) {
      int v = f + i * step;
      if (kind == 0) { v = v & 255; if (v > 127) v -= 256; }
      if (kind == 1) { v = v & 65535; if (v > 32767) v -= 65536; }
      if (v < 0) v = 0;
      if (v > 99) v = 99;
      if (day + i <= 399) flow[day + i] = v;
    }
    return n;
  }
  int flow(int day) { return day(day) ? flow[day] : NONE; }
  int bed() { return beds == 4 ? NONE : beds++; }
  int pier(int bed, int width, int rock, int foot, int piles) {
    if (bed < 0 || bed >= beds || width < 1 || width > 20 || rock < 1 || rock > 200) return NONE;
    if (foot < 0 || foot > 99 || piles < 0 || piles > 99 || piers.size() == 8) return NONE;
    piers.add(new Pier(bed, width, rock, foot, piles));
    truth.add(0);
    return piers.size() - 1;
  }
  int tree(int pier, int day, int wider) {
    if (!pierIs(pier) || !day(day) || wider < 1 || wider > 20 || trees.size() == 20) return NONE;
    trees.add(new Tree(pier, day, wider));
    stories = new int[8][64][][];
    return trees.size();
  }

  int goal(int pier, int mind, int day) {
    int width = piers.get(pier).width;
    for (Tree t : trees) if (t.pier == pier && t.day <= day) width += t.wider;
    int goal = (mind / 8 + 1) * flow[day] * width / 100;
    return goal > piers.get(pier).rock ? piers.get(pier).rock : goal;
  }
  /** Hole and ever as a day ends: all 400 days at once, thrown away whenever flows or trees are told. */
  int[] story(int pier, int mind, int day) {
    if (stories[pier][mind] == null) stories[pier][mind] = wholeStory(pier, mind);
    return stories[pier][mind][day];
  }
  int[][][][] stories = new int[8][64][][];
  int[][] wholeStory(int pier, int mind) {
    int[][] days = new int[400][];
    int hole = 0, ever = 0, b = mind % 8;
    for (int d = 0; d <= 399; d++) {
      int goal = goal(pier, mind, d);
      if (goal > hole) {
        int rest = goal - hole;
        hole = hole + rest / 2 + rest % 2;
      } else {
        int rest = hole - goal;
        hole = hole - (rest * b) / 8;
      }
      if (hole > ever) ever = hole;
      days[d] = new int[] {hole, ever};
    }
    return days;
  }
  int stands(int pier, int mind, int day) {
    int ever = story(pier, mind, day)[1];
    Pier p = piers.get(pier);
    if (ever > p.foot + p.piles) return 2;
    return ever > p.foot ? 1 : 0;
  }
  int hole(int pier, int mind, int day, int what) {
    if (!pierIs(pier) || !mindIs(mind) || !day(day)) return NONE;
    if (what == 0 || what == 1) return story(pier, mind, day)[what];
    if (what == 2) return goal(pier, mind, day);
    return what == 3 ? stands(pier, mind, day) : NONE;
  }
  int when(int pier, int mind, int what) {
    if (!pierIs(pier) || !mindIs(mind) || what < 0 || what > 1) return NONE;
    for (int d = 0; d < 400; d++) {
      int s = stands(pier, mind, d);
      if (what == 0 ? s != 0 : s == 2) return d;
    }
    return NONE;
  }

  boolean known(Look l, int as) { return l.known <= as && (l.back == null || as < l.back); }
  boolean barsMind(Look l, int mind) {
    int far = story(l.pier, mind, l.day)[0] - l.seen;
    return far > l.errs || -far > l.errs;
  }
  boolean free(int pier, int mind, int as) {
    for (Look l : looks) if (l.pier == pier && known(l, as) && barsMind(l, mind)) return false;
    return true;
  }
  boolean isKept(int pier, int mind, int as) {
    if (!free(pier, mind, as)) return false;
    for (int q = 0; q < piers.size(); q++) {
      if (q == pier || piers.get(q).bed != piers.get(pier).bed) continue;
      boolean some = false;
      for (int m = 0; m < 64 && !some; m++) some = m / 8 == mind / 8 && free(q, m, as);
      if (!some) return false;
    }
    return true;
  }
  List<Integer> keptOnes(int pier, int as) {
    List<Integer> all = new ArrayList<>();
    for (int m = 0; m < 64; m++) if (isKept(pier, m, as)) all.add(m);
    return all;
  }
  int kept(int pier, int mind) {
    if (!pierIs(pier) || !mindIs(mind)) return NONE;
    return isKept(pier, mind, as) ? 1 : free(pier, mind, as) ? 2 : 0;
  }
  int minds(int pier) {
    if (!pierIs(pier)) return NONE;
    row = keptOnes(pier, as);
    return row.size();
  }
  int shared(int bed) {
    if (bed < 0 || bed >= beds) return NONE;
    for (int p = 0; p < piers.size(); p++) {
      if (piers.get(p).bed == bed) {
        int bits = 0;
        for (int m : keptOnes(p, as)) bits |= 1 << (m / 8);
        return bits;
      }
    }
    return 255;
  }

  int look(int pier, int day, int seen, int errs, int known) {
    if (!pierIs(pier) || !day(day) || seen < 0 || seen > 200 || errs < 0 || errs > 50) return NONE;
    if (!day(known) || known < day || looks.size() == 40) return NONE;
    Look l = new Look();
    l.pier = pier; l.day = day; l.seen = seen; l.errs = errs; l.known = known;
    looks.add(l);
    return looks.size() - 1;
  }
  boolean back(int look, int day) {
    if (!lookIs(look) || !day(day)) return false;
    looks.get(look).back = day;
    return true;
  }
  int as(int day) {
    if (!day(day)) return NONE;
    int was = as;
    as = day;
    return was;
  }
  int bars(int look) {
    if (!lookIs(look)) return NONE;
    int n = 0;
    for (int m = 0; m < 64; m++) if (barsMind(looks.get(look), m)) n++;
    return n;
  }
  int freeMany(int pier) {
    int n = 0;
    for (int m = 0; m < 64; m++) if (free(pier, m, as)) n++;
    return n;
  }
  int weighs(int look) {
    if (!lookIs(look) || !known(looks.get(look), as)) return NONE;
    Look l = looks.get(look);
    int with = freeMany(l.pier);
    Integer was = l.back;
    l.back = 0;
    int without = freeMany(l.pier);
    l.back = was;
    return without - with;
  }
  int blame(int pier) {
    if (!pierIs(pier)) return NONE;
    List<Integer> best = null;
    for (int m = 0; m < 64; m++) {
      List<Integer> these = new ArrayList<>();
      these.add(m);
      for (int i = 0; i < looks.size(); i++) {
        Look l = looks.get(i);
        if (l.pier == pier && known(l, as) && barsMind(l, m)) these.add(i);
      }
      if (best == null || these.size() < best.size()) best = these;
    }
    row = best;
    return best.size() - 1;
  }

  int state(int pier, int day) {
    if (!pierIs(pier) || !day(day)) return NONE;
    TreeSet<Integer> all = new TreeSet<>();
    for (int m : keptOnes(pier, as)) all.add(stands(pier, m, day));
    return all.isEmpty() ? 4 : all.size() > 1 ? 3 : all.first();
  }
  int ends(int pier, int day) {
    if (!pierIs(pier) || !day(day)) return NONE;
    List<Integer> kept = keptOnes(pier, as);
    if (kept.isEmpty()) return NONE;
    TreeSet<Integer> holes = new TreeSet<>(), evers = new TreeSet<>();
    for (int m : kept) {
      holes.add(story(pier, m, day)[0]);
      evers.add(story(pier, m, day)[1]);
    }
    row = new ArrayList<>(List.of(holes.first(), holes.last(), evers.first(), evers.last()));
    return kept.size();
  }
  boolean yes(int pier, int mind, int day, int question) {
    return stands(pier, mind, day) == (question == 0 ? 0 : 2);
  }
  int share(int pier, int day, int question) {
    if (!pierIs(pier) || !day(day) || question < 0 || question > 1) return NONE;
    List<Integer> kept = keptOnes(pier, as);
    if (kept.isEmpty()) return NONE;
    int n = 0;
    for (int m : kept) if (yes(pier, m, day, question)) n++;
    return n * 1000 / kept.size();
  }

  List<Integer> left(List<Integer> minds, int[] holes, int s, int errs) {
    List<Integer> left = new ArrayList<>();
    for (int m : minds) if (Math.abs(holes[m] - s) <= errs) left.add(m);
    return left;
  }
  int[] holes(int pier, int day) {
    int[] holes = new int[64];
    for (int m = 0; m < 64; m++) holes[m] = story(pier, m, day)[0];
    return holes;
  }
  int worst(int pier, int day, int errs) {
    if (!pierIs(pier) || !day(day) || errs < 0 || errs > 50) return NONE;
    List<Integer> kept = keptOnes(pier, as);
    if (kept.isEmpty()) return NONE;
    int[] holes = holes(pier, day);
    int most = 0;
    for (int m : kept) most = Math.max(most, left(kept, holes, holes[m], errs).size());
    return most;
  }
  int next(int pier, int from, int to, int errs) {
    if (!pierIs(pier) || !day(from) || !day(to) || to < from || errs < 0 || errs > 50) return NONE;
    if (keptOnes(pier, as).isEmpty()) return NONE;
    int best = from, least = worst(pier, from, errs);
    for (int d = from + 1; d <= to; d++) {
      int w = worst(pier, d, errs);
      if (w < least) { least = w; best = d; }
    }
    row = new ArrayList<>(List.of(least));
    return best;
  }
  boolean rowOfDays(int from, int by, int many) {
    return day(from) && by >= 1 && by <= 50 && many >= 1 && many <= 6 && from + by * (many - 1) <= 399;
  }
  int worstOf(List<Integer> minds, int[][] holes, int first, int k, int errs) {
    int best = minds.size();
    if (k == 0) return best;
    for (int j = first; j < holes.length; j++) best = Math.min(best, worstFrom(minds, holes, j, k, errs));
    return best;
  }
  int worstFrom(List<Integer> minds, int[][] holes, int j, int k, int errs) {
    TreeSet<Integer> seen = new TreeSet<>();
    for (int m : minds) seen.add(holes[j][m]);
    int most = 0;
    for (int s : seen) most = Math.max(most, worstOf(left(minds, holes[j], s, errs), holes, j + 1, k - 1, errs));
    return most;
  }
  int[][] holesOf(int pier, int from, int by, int many) {
    int[][] holes = new int[many][];
    for (int j = 0; j < many; j++) holes[j] = holes(pier, from + by * j);
    return holes;
  }
  int plan(int pier, int from, int by, int many, int k, int errs) {
    if (!pierIs(pier) || !rowOfDays(from, by, many) || k < 1 || k > 3 || errs < 0 || errs > 50) return NONE;
    List<Integer> kept = keptOnes(pier, as);
    if (kept.isEmpty()) return NONE;
    int[][] holes = holesOf(pier, from, by, many);
    int best = worstOf(kept, holes, 0, k, errs), first = NONE;
    for (int j = many - 1; j >= 0; j--) {
      if (best < kept.size() && worstFrom(kept, holes, j, k, errs) == best) first = from + by * j;
    }
    row = new ArrayList<>(List.of(first));
    return best;
  }
  boolean settled(List<Integer> minds, boolean[] yes, int[][] holes, int first, int k, int errs) {
    boolean some = false, all = true;
    for (int m : minds) { some |= yes[m]; all &= yes[m]; }
    if (some == all) return true;
    if (k == 0) return false;
    for (int j = first; j < holes.length; j++) {
      boolean good = true;
      for (int m : minds) good = good && settled(left(minds, holes[j], holes[j][m], errs), yes, holes, j + 1, k - 1, errs);
      if (good) return true;
    }
    return false;
  }
  int settles(int pier, int question, int day, int from, int by, int many, int errs) {
    if (!pierIs(pier) || question < 0 || question > 1 || !day(day) || !rowOfDays(from, by, many)) return NONE;
    if (errs < 0 || errs > 50) return NONE;
    List<Integer> kept = keptOnes(pier, as);
    if (kept.isEmpty()) return NONE;
    boolean[] yes = new boolean[64];
    for (int m = 0; m < 64; m++) yes[m] = yes(pier, m, day, question);
    int[][] holes = holesOf(pier, from, by, many);
    for (int k = 0; k <= 3; k++) if (settled(kept, yes, holes, 0, k, errs)) return k;
    return -2;
  }

  int prove(int mind, int look) {
    if (!mindIs(mind) || look < 0 || look > 39 || proof.size() == 64) return NONE;
    proof.add(new int[] {mind, look});
    return proof.size();
  }
  int check(int pier) {
    List<int[]> steps = proof;
    proof = new ArrayList<>();
    if (!pierIs(pier)) return -100;
    TreeSet<Integer> stood = new TreeSet<>();
    for (int i = 0; i < steps.size(); i++) {
      int m = steps.get(i)[0], l = steps.get(i)[1];
      if (!lookIs(l) || looks.get(l).pier != pier || !known(looks.get(l), as)) return -1 - i;
      if (!barsMind(looks.get(l), m) || !stood.add(m)) return -1 - i;
    }
    for (int m = 0; m < 64; m++) if (!free(pier, m, as) && !stood.contains(m)) return 1;
    return 0;
  }
  int lay(int pier) {
    if (!pierIs(pier)) return NONE;
    proof = new ArrayList<>();
    for (int m = 0; m < 64; m++) {
      for (int l = 0; l < looks.size(); l++) {
        Look look = looks.get(l);
        if (look.pier == pier && known(look, as) && barsMind(look, m)) {
          proof.add(new int[] {m, l});
          break;
        }
      }
    }
    return proof.size();
  }
  int proof(int i, int what) {
    return i < 0 || i >= proof.size() || what < 0 || what > 1 ? NONE : proof.get(i)[what];
  }

  int bridge(int bits, int traffic) {
    if (bits < 1 || bits >= 1 << piers.size() || traffic < 0 || traffic > 999 || bridges.size() == 4) return NONE;
    bridges.add(new Bridge(bits, traffic));
    return bridges.size() - 1;
  }
  int truth(int pier, int mind) {
    if (!pierIs(pier) || !mindIs(mind)) return NONE;
    return truth.set(pier, mind);
  }
  int shut(int bridge, int day, int p) {
    if (bridge < 0 || bridge >= bridges.size() || !day(day) || p < 0 || p > 1000) return NONE;
    for (int q = 0; q < piers.size(); q++) {
      if ((bridges.get(bridge).piers >> q & 1) == 0) continue;
      List<Integer> kept = keptOnes(q, day);
      int not = 0;
      for (int m : kept) if (stands(q, m, day) != 0) not++;
      if (kept.isEmpty() || not * 1000 > p * kept.size()) return 1;
    }
    return 0;
  }
  boolean runIs(int bridge, int from, int to) {
    return bridge >= 0 && bridge < bridges.size() && day(from) && day(to) && from <= to && to - from + 1 <= 60;
  }
  int run(int bridge, int from, int to, int p) {
    if (!runIs(bridge, from, to) || p < 0 || p > 1000) return NONE;
    int shut = 0, late = 0, falsely = 0;
    for (int d = from; d <= to; d++) {
      boolean all = true, some = false;
      for (int q = 0; q < piers.size(); q++) {
        if ((bridges.get(bridge).piers >> q & 1) == 0) continue;
        int s = stands(q, truth.get(q), d);
        all &= s == 0;
        some |= s == 2;
      }
      if (shut(bridge, d, p) == 1) { shut++; if (all) falsely++; } else if (some) late++;
    }
    row = new ArrayList<>(List.of(late, falsely, shut * bridges.get(bridge).traffic));
    return shut;
  }
  int best(int bridge, int from, int to, int weight) {
    if (!runIs(bridge, from, to) || weight < 0 || weight > 9999) return NONE;
    int best = NONE, least = 0;
    for (int p = 1000; p >= 0; p -= 100) {
      run(bridge, from, to, p);
      int sum = row.get(2) + weight * row.get(0);
      if (best == NONE || sum < least) { best = p; least = sum; }
    }
    row = new ArrayList<>(List.of(least));
    return best;
  }

  int offer(int pier, int more, int cost) {
    if (!pierIs(pier) || more < 1 || more > 99 || cost < 1 || cost > 999 || offers.size() == 10) return NONE;
    offers.add(new Offer(pier, more, cost));
    return offers.size();
  }
  int choose(int money, int day) {
    if (money < 0 || money > 9999 || !day(day)) return NONE;
    int[] ever = new int[piers.size()];
    for (int q = 0; q < piers.size(); q++) {
      ever[q] = NONE;
      for (int m : keptOnes(q, as)) ever[q] = Math.max(ever[q], story(q, m, day)[1]);
    }
    int most = NONE, bits = 0, least = 0;
    for (int set = 0; set < 1 << offers.size(); set++) {
      int cost = 0, sure = 0;
      int[] more = new int[piers.size()];
      for (int i = 0; i < offers.size(); i++) {
        if ((set >> i & 1) == 0) continue;
        cost += offers.get(i).cost;
        more[offers.get(i).pier] += offers.get(i).more;
      }
      if (cost > money) continue;
      for (int q = 0; q < piers.size(); q++) {
        if (ever[q] != NONE && ever[q] <= piers.get(q).foot + piers.get(q).piles + more[q]) sure++;
      }
      if (sure > most || sure == most && cost < least) { most = sure; least = cost; bits = set; }
    }
    row = new ArrayList<>(List.of(bits, least));
    return most;
  }
  int count(int what) {
    int n = 0;
    switch (what) {
      case 0: return beds;
      case 1: return piers.size();
      case 2: return trees.size();
      case 3: return looks.size();
      case 4: for (Look l : looks) if (known(l, as)) n++; return n;
      case 5: return as;
      case 6: return proof.size();
      case 7: return bridges.size();
      case 8: return offers.size();
      case 9: return row.size();
      case 10: for (int q = 0; q < piers.size(); q++) if (keptOnes(q, as).isEmpty()) n++; return n;
      default: return NONE;
    }
  }
  int row(int i) {
    if (i < 0 || i >= row.size()) throw new NoSuchElementException();
    return row.get(i);
  }
}
