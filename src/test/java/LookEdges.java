/** Boundary cases of term 2 (looks, and what is free, kept and sure by them) and of promises 9 to 20. */
final class LookEdges extends Edge {
  // ---- term 2

  @Says("A LOOK BARS a MIND of its PIER, if the MIND's HOLE at the end of its DAY is farther from SEEN than ERRS")
  static void promise15_term2_aLookBarsWhatIsFartherThanItErrs() {
    // holes as day 2 ends: 5 by A 1, 9 by A 2, then 14, 18, 22, 27, 31, 35
    int[][] seenErrsBars = {{5, 0, 56}, {4, 0, 64}, {4, 1, 56}, {6, 1, 56}, {7, 1, 64}, {7, 2, 48}, {0, 4, 64}, {0, 5, 56},
        {40, 4, 64}, {40, 5, 56}, {200, 50, 64}};
    for (int[] s : seenErrsBars) {
      RiverFeet x = river();
      x.look(0, 2, s[0], s[1], 2);
      due("seen " + s[0] + ", errs " + s[1], x.bars(0), s[2]);
    }
  }

  @Says("HOLE at the end of its DAY")
  static void promise9_term2_aLookTellsOfTheHoleOnItsOwnDay() {
    RiverFeet x = river();
    x.look(0, 1, 4, 0, 3);
    due("hole 4 on day 1", x.kept(0, 0), 1);
    x.look(0, 3, 5, 0, 3);
    due("hole 5 on day 3", x.kept(0, 0), 1);
    due("hole 1 on day 3, though ever 5", x.kept(0, 7), 0);
  }

  @Says("KNOWN from a DAY on")
  static void promise12_term2_aLookIsKnownFromItsDayOn() {
    RiverFeet x = river();
    x.look(0, 2, 5, 0, 10);
    x.as(9);
    due("known on day 9", x.count(4), 0);
    due("mind 8", x.kept(0, 8), 1);
    x.as(10);
    due("known on day 10", x.count(4), 1);
    due("mind 8", x.kept(0, 8), 0);
  }

  @Says("TAKEN BACK from a DAY on (not KNOWN from then)")
  static void promise13_term2_aLookTakenBackIsNotKnownFromThenOn() {
    RiverFeet x = river();
    x.look(0, 2, 5, 0, 10);
    x.back(0, 30);
    x.as(29);
    due("known on day 29", x.count(4), 1);
    due("mind 8", x.kept(0, 8), 0);
    x.as(30);
    due("known on day 30", x.count(4), 0);
    due("mind 8", x.kept(0, 8), 1);
  }

  @Says("TAKEN BACK from a DAY on (not KNOWN from then)")
  static void promise13_term2_aLookTakenBackAsItBecomesKnownIsNeverKnown() {
    RiverFeet x = river();
    x.look(0, 2, 5, 0, 10);
    int[][] backAsKnown = {{11, 10, 1}, {11, 11, 0}, {10, 10, 0}, {10, 399, 0}, {3, 2, 0}, {3, 10, 0}, {3, 399, 0}};
    for (int[] b : backAsKnown) {
      x.back(0, b[0]);
      x.as(b[1]);
      due("taken back from day " + b[0] + ", known on day " + b[1], x.count(4), b[2]);
    }
  }

  @Says("AS: a DAY (0 .. 399; at first 399)")
  static void promise14_term2_asIs399AtFirst() {
    RiverFeet x = river();
    x.look(0, 2, 5, 0, 399);
    due("known from day 399 on", x.count(4), 1);
    due("minds", x.minds(0), 8);
    x.as(398);
    due("known on day 398", x.count(4), 0);
    due("minds", x.minds(0), 64);
  }

  @Says("A MIND of a PIER is FREE, if no LOOK KNOWN on AS bars it")
  static void promise9_term2_oneLookThatBarsIsEnoughAndThoseOfOtherPiersDoNot() {
    RiverFeet x = river();
    x.bed();
    x.pier(1, 10, 200, 5, 5);
    x.look(0, 2, 7, 2, 2);
    x.look(0, 2, 9, 0, 2);
    due("barred by one of two", x.kept(0, 0), 0);
    due("barred by none", x.kept(0, 8), 1);
    due("at a pier without looks", x.kept(1, 0), 1);
    due("at a pier without looks", x.minds(1), 64);
  }

  @Says("each other PIER of its BED has a FREE MIND with its A")
  static void promise9_term2_anyBOfTheOtherPierWillDo() {
    RiverFeet x = river();
    x.pier(0, 10, 200, 5, 5);
    x.look(1, 2, 35, 0, 2);
    x.look(1, 3, 5, 0, 3);
    due("of the other pier mind 63 alone", x.minds(1), 1);
    row(x, 63);
    due("each B of A 8", x.minds(0), 8);
    row(x, 56, 57, 58, 59, 60, 61, 62, 63);
    due("another A", x.kept(0, 55), 2);
    RiverFeet y = river();
    y.pier(0, 10, 200, 5, 5);
    y.look(1, 2, 35, 0, 2);
    y.look(1, 3, 35, 0, 3);
    due("of the other pier mind 56 alone", y.minds(1), 1);
    row(y, 56);
    due("each B of A 8", y.minds(0), 8);
    row(y, 56, 57, 58, 59, 60, 61, 62, 63);
    due("shared", y.shared(0), 128);
  }

  @Says("each other PIER of its BED")
  static void promise9_term2_eachOtherPierMustHaveIt() {
    RiverFeet x = river();
    x.pier(0, 10, 200, 5, 5);
    x.pier(0, 10, 200, 5, 5);
    x.look(1, 2, 7, 2, 2);
    x.look(2, 2, 12, 3, 2);
    due("one of the others has it", x.kept(0, 0), 2);
    due("both have it", x.kept(0, 8), 1);
    due("one of the others has it", x.kept(0, 16), 2);
    due("none of them has it", x.kept(0, 24), 2);
  }

  @Says("each other PIER of its BED")
  static void promise9_term2_piersOfOtherBedsHaveNoPartInIt() {
    RiverFeet x = river();
    x.bed();
    x.pier(1, 10, 200, 5, 5);
    x.look(1, 2, 100, 0, 2);
    due("in another bed", x.minds(0), 64);
    due("its own", x.minds(1), 0);
  }

  @Says("A PIER none of whose MINDS is KEPT QUARRELS")
  static void promise18_term2_oneMindKeptIsNoQuarrel() {
    RiverFeet x = river();
    x.look(0, 2, 35, 0, 2);
    x.look(0, 3, 5, 0, 3);
    due("mind 63 alone", x.minds(0), 1);
    due("quarrels", x.count(10), 0);
    due("state", x.state(0, 3), 2);
    x.look(0, 3, 4, 0, 3);
    due("none", x.minds(0), 0);
    due("quarrels", x.count(10), 1);
    due("state", x.state(0, 3), 4);
  }

  @Says("A PIER none of whose MINDS is KEPT QUARRELS")
  static void promise18_term2_aPierQuarrelsThroughItsBedToo() {
    RiverFeet x = quarrel();
    due("free, but not kept", x.kept(1, 0), 2);
    due("state", x.state(1, 2), 4);
    due("both quarrel", x.count(10), 2);
    x.as(9);
    due("none quarrels", x.count(10), 0);
    due("state", x.state(1, 2), 3);
  }

  @Says("SURE: what is so by all MINDS KEPT (one at least); OPEN: by some but not all")
  static void promise18_term2_oneMindMakesItOpenAndNoneMakesNothingSure() {
    due("by all three", three(19, 0).state(0, 2), 0);
    due("not by one of them", three(18, 0).state(0, 2), 3);
    RiverFeet x = three(19, 0);
    x.look(0, 2, 4, 0, 2);
    due("by none of none", x.state(0, 2), 4);
  }

  // ---- promise 9

  @Says("Whether a MIND is KEPT: 1, 0; FREE, but not KEPT: 2")
  static void promise9_keptBarredAndFreeButNotKept() {
    RiverFeet x = river();
    x.pier(0, 10, 200, 5, 5);
    x.look(0, 2, 7, 2, 2);
    x.look(1, 2, 12, 3, 2);
    int[][] want = {{2, 0}, {1, 1}, {0, 2}, {0, 0}};
    for (int a = 0; a < want.length; a++) {
      due("pier 0, mind " + 8 * a, x.kept(0, 8 * a), want[a][0]);
      due("pier 1, mind " + (8 * a + 7), x.kept(1, 8 * a + 7), want[a][1]);
    }
  }

  @Says("NONE: none such")
  static void promise9_thePierAndTheMindAreOnesThatThereAre() {
    due("mind 0", busy().kept(2, 0), 1);
    due("mind 63", busy().kept(2, 63), 1);
    due("pier 0", busy().kept(0, 63), 0);
    for (int pier : outside(0, 2)) refused("pier " + pier, y -> y.kept(pier, 0));
    for (int mind : outside(0, 63)) refused("mind " + mind, y -> y.kept(0, mind));
  }

  // ---- promise 10

  @Says("How many MINDS of a PIER are KEPT; the ROW: they, ascending")
  static void promise10_theRowHasAllMindsKeptAscending() {
    due("three", three(5, 5).minds(0), 3);
    RiverFeet x = three(5, 5);
    x.minds(0);
    row(x, 11, 21, 38);
  }

  @Says("How many MINDS of a PIER are KEPT; the ROW")
  static void promise10_theRowIsFullWhenAllAreKept() {
    RiverFeet x = river();
    due("all", x.minds(0), 64);
    int[] all = new int[64];
    for (int i = 0; i < 64; i++) all[i] = i;
    row(x, all);
  }

  @Says("How many MINDS of a PIER are KEPT; the ROW")
  static void promise10_theRowIsEmptyWhenNoneIsKept() {
    RiverFeet x = quarrel();
    due("count(9) ahead", x.count(9), 4);
    due("none free", x.minds(0), 0);
    row(x);
    x.as(9);
    x.minds(1);
    due("count(9) ahead", x.count(9), 64);
    x.as(10);
    due("free, but none kept", x.minds(1), 0);
    row(x);
  }

  @Says("NONE: none such")
  static void promise10_thePierIsOneThatThereIs() {
    due("pier 0", busy().minds(0) > 0, true);
    due("pier 2", busy().minds(2), 64);
    for (int pier : outside(0, 2)) refused("pier " + pier, y -> y.minds(pier));
  }

  // ---- promise 11

  @Says("As (bits, A less 1) all A of MINDS KEPT of the PIERS of a BED (each alike)")
  static void promise11_theBitOfAIsALessOne() {
    int[][] seenAndBits = {{5, 1}, {9, 2}, {14, 4}, {18, 8}, {22, 16}, {27, 32}, {31, 64}, {35, 128}};
    for (int[] s : seenAndBits) {
      RiverFeet x = river();
      x.look(0, 2, s[0], 0, 2);
      due("seen " + s[0], x.shared(0), s[1]);
    }
    due("all", river().shared(0), 255);
  }

  @Says("all A of MINDS KEPT of the PIERS of a BED (each alike)")
  static void promise11_onlyWhatAllPiersOfTheBedHave() {
    RiverFeet x = river();
    x.pier(0, 10, 200, 5, 5);
    x.look(0, 2, 7, 2, 2);
    due("A 1 and 2", x.shared(0), 3);
    x.look(1, 2, 12, 3, 2);
    due("A 2", x.shared(0), 2);
    x.look(1, 2, 14, 0, 20);
    due("none", x.shared(0), 0);
    x.as(19);
    due("not known yet", x.shared(0), 2);
  }

  @Says("with no PIERS 255")
  static void promise11_aBedWithoutPiersHasAll() {
    RiverFeet x = quarrel();
    x.bed();
    due("the bed that quarrels", x.shared(0), 0);
    due("a bed without piers", x.shared(1), 255);
    x.pier(1, 10, 200, 5, 5);
    due("a bed with a pier without looks", x.shared(1), 255);
    x.look(2, 2, 5, 0, 2);
    due("a bed with a pier with a look", x.shared(1), 1);
  }

  @Says("NONE: none such")
  static void promise11_theBedIsOneThatThereIs() {
    due("bed 0", busy().shared(0) > 0, true);
    due("bed 1", busy().shared(1), 255);
    for (int bed : outside(0, 1)) refused("bed " + bed, y -> y.shared(bed));
  }

  // ---- promise 12

  @Says("A LOOK: its number")
  static void promise12_refusedLooksTakeNoNumber() {
    RiverFeet x = busy();
    due("refused", x.look(0, 2, 201, 0, 2), NONE);
    due("the fourth", x.look(0, 2, 200, 0, 2), 3);
    due("count(3)", x.count(3), 4);
  }

  @Says("Refused: others")
  static void promise12_thePierIsOneThatThereIs() {
    due("pier 0", busy().look(0, 2, 5, 0, 2), 3);
    due("pier 2", busy().look(2, 2, 5, 0, 2), 3);
    for (int pier : outside(0, 2)) refused("pier " + pier, y -> y.look(pier, 2, 5, 0, 2));
  }

  @Says("Refused: others")
  static void promise12_theDayIs0To399() {
    due("day 0", busy().look(0, 0, 5, 0, 399), 3);
    due("day 399", busy().look(0, 399, 5, 0, 399), 3);
    for (int day : outside(0, 399)) refused("day " + day, y -> y.look(0, day, 5, 0, 399));
    refused("day 400, known from then", y -> y.look(0, 400, 5, 0, 400));
  }

  @Says("what was SEEN (0 .. 200)")
  static void promise12_term2_seenIs0To200() {
    RiverFeet x = busy();
    due("seen 0", x.look(0, 2, 0, 5, 2), 3);
    due("bars", x.bars(3), 56);
    due("seen 200", x.look(0, 2, 200, 50, 2), 4);
    due("bars", x.bars(4), 64);
    for (int seen : outside(0, 200)) refused("seen " + seen, y -> y.look(0, 2, seen, 5, 2));
  }

  @Says("how far it ERRS (0 .. 50)")
  static void promise12_term2_errsIs0To50() {
    RiverFeet x = busy();
    due("errs 0", x.look(0, 2, 5, 0, 2), 3);
    due("bars", x.bars(3), 56);
    due("errs 50", x.look(0, 2, 5, 50, 2), 4);
    due("bars", x.bars(4), 0);
    for (int errs : outside(0, 50)) refused("errs " + errs, y -> y.look(0, 2, 5, errs, 2));
  }

  @Says("KNOWN from a DAY on (0 .. 399, not ahead of its own)")
  static void promise12_term2_knownIs0To399AndNotAheadOfItsDay() {
    RiverFeet x = busy();
    due("day 0, known from day 0 on", x.look(0, 0, 5, 0, 0), 3);
    due("day 7, known from day 7 on", x.look(0, 7, 5, 0, 7), 4);
    due("day 7, known from day 399 on", x.look(0, 7, 5, 0, 399), 5);
    refused("known ahead of its day", y -> y.look(0, 7, 5, 0, 6));
    for (int known : outside(0, 399)) refused("known " + known, y -> y.look(0, 0, 5, 0, known));
  }

  @Says("Refused: others, 40")
  static void promise12_theFortiethLookIsTheLast() {
    RiverFeet x = busy();
    for (int i = 3; i < 40; i++) due("look", x.look(i % 3, 2, 5, 50, 2), i);
    due("bars(39)", x.bars(39), 0);
    for (int pier : new int[] {0, 1, 2}) refused("the 41st at pier " + pier, NONE, LookEdges::fortyLooks, y -> y.look(pier, 2, 5, 0, 2));
    due("count(3)", x.count(3), 40);
    due("bars(40)", x.bars(40), NONE);
  }
  private static RiverFeet fortyLooks() {
    RiverFeet x = busy();
    for (int i = 3; i < 40; i++) x.look(i % 3, 2, 5, 50, 2);
    return x;
  }

  // ---- promise 13

  @Says("A LOOK is TAKEN BACK from a DAY (0 .. 399) on")
  static void promise13_theDayIs0To399() {
    RiverFeet x = busy();
    due("from day 399 on", x.back(0, 399), true);
    x.as(398);
    due("weighs", x.weighs(0) >= 0, true);
    x.as(399);
    due("weighs", x.weighs(0), NONE);
    due("from day 0 on", x.back(0, 0), true);
    x.as(398);
    due("weighs", x.weighs(0), NONE);
    for (int day : outside(0, 399)) refused("day " + day, 0, Edge::busy, y -> y.back(0, day) ? 1 : 0);
  }

  @Says("(told again: from then)")
  static void promise13_toldAgainItIsFromThenLaterOrSooner() {
    RiverFeet x = river();
    x.look(0, 2, 5, 0, 2);
    int[][] backAsKnown = {{100, 99, 1}, {100, 100, 0}, {200, 199, 1}, {200, 200, 0}, {50, 49, 1}, {50, 50, 0}, {50, 199, 0}};
    for (int[] b : backAsKnown) {
      due("back", x.back(0, b[0]), true);
      x.as(b[1]);
      due("taken back from day " + b[0] + ", known on day " + b[1], x.count(4), b[2]);
    }
    due("the same again", x.back(0, 50), true);
    due("known on day 199", x.count(4), 0);
  }

  @Says("Refused: others")
  static void promise13_theLookIsOneThatThereIs() {
    due("look 0", busy().back(0, 5), true);
    due("look 2", busy().back(2, 5), true);
    for (int look : outside(0, 2)) refused("look " + look, 0, Edge::busy, y -> y.back(look, 5) ? 1 : 0);
  }

  @Says("A LOOK is TAKEN BACK")
  static void promise13_oneTakenBackStaysALook() {
    RiverFeet x = river();
    x.look(0, 2, 5, 0, 2);
    x.look(0, 2, 100, 0, 2);
    x.back(1, 0);
    due("count(3)", x.count(3), 2);
    due("bars", x.bars(1), 64);
    due("the other stays known", x.count(4), 1);
    due("minds", x.minds(0), 8);
    due("the next one's number", x.look(0, 2, 5, 0, 2), 2);
  }

  // ---- promise 14

  @Says("AS becomes a DAY: what it was. Refused: others")
  static void promise14_theDayIs0To399() {
    RiverFeet x = new RiverFeet();
    due("as(0)", x.as(0), 399);
    due("count(5)", x.count(5), 0);
    due("as(399)", x.as(399), 0);
    due("count(5)", x.count(5), 399);
    due("as(399) again", x.as(399), 399);
    for (int day : outside(0, 399)) refused("as(" + day + ")", y -> y.as(day));
  }

  // ---- promise 15

  @Says("How many MINDS of its PIER a LOOK bars, KNOWN or not")
  static void promise15_knownOrNot() {
    RiverFeet x = river();
    x.look(0, 2, 5, 0, 10);
    for (int day : new int[] {0, 9, 10, 399}) {
      x.as(day);
      due("as " + day, x.bars(0), 56);
    }
    x.back(0, 0);
    due("taken back", x.bars(0), 56);
  }

  @Says("How many MINDS of its PIER a LOOK bars")
  static void promise15_noneAndAll() {
    RiverFeet x = river();
    x.look(0, 2, 20, 15, 2);
    due("none", x.bars(0), 0);
    x.look(0, 2, 20, 14, 2);
    due("those at both ends", x.bars(1), 16);
    x.look(0, 2, 100, 50, 2);
    due("all", x.bars(2), 64);
    due("what others bar has no part in it", x.bars(1), 16);
  }

  @Says("NONE: none such")
  static void promise15_theLookIsOneThatThereIs() {
    due("look 0", busy().bars(0) > 0, true);
    due("look 2", busy().bars(2) > 0, true);
    for (int look : outside(0, 2)) refused("look " + look, y -> y.bars(look));
  }

  // ---- promise 16

  @Says("How many MINDS more of its PIER would be FREE without a LOOK")
  static void promise16_onlyWhatNoOtherLookBars() {
    RiverFeet x = river();
    x.look(0, 2, 7, 2, 2);
    due("alone", x.weighs(0), 48);
    x.look(0, 2, 9, 0, 2);
    due("the wider one", x.weighs(0), 0);
    due("the narrower one", x.weighs(1), 8);
    x.look(0, 2, 9, 0, 2);
    due("the same twice", x.weighs(1), 0);
    due("the same twice", x.weighs(2), 0);
    x.look(0, 2, 9, 50, 2);
    due("one that bars none", x.weighs(3), 0);
  }

  @Says("MINDS more of its PIER would be FREE")
  static void promise16_freeIsEnoughAndItsPierAlone() {
    RiverFeet x = quarrel();
    due("all its minds, and no others", x.weighs(0), 64);
    x.look(1, 2, 5, 0, 2);
    due("free, though none is kept", x.weighs(1), 56);
    due("a look at the other pier has no part in it", x.weighs(0), 64);
  }

  @Says("it is not KNOWN on AS")
  static void promise16_theLookIsKnownOnAs() {
    RiverFeet x = river();
    x.look(0, 2, 5, 0, 10);
    x.back(0, 30);
    int[][] asAndWeight = {{9, NONE}, {10, 56}, {29, 56}, {30, NONE}};
    for (int[] a : asAndWeight) {
      x.as(a[0]);
      due("as " + a[0], x.weighs(0), a[1]);
    }
  }

  @Says("How many MINDS more")
  static void promise16_anotherLookCountsWhileItIsKnown() {
    RiverFeet x = river();
    x.look(0, 2, 5, 0, 2);
    x.look(0, 2, 5, 0, 10);
    x.back(1, 30);
    int[][] asAndWeight = {{9, 56}, {10, 0}, {29, 0}, {30, 56}};
    for (int[] a : asAndWeight) {
      x.as(a[0]);
      due("as " + a[0], x.weighs(0), a[1]);
    }
  }

  @Says("NONE: none such")
  static void promise16_theLookIsOneThatThereIs() {
    due("look 0", busy().weighs(0) >= 0, true);
    RiverFeet x = busy();
    x.as(250);
    due("look 2", x.weighs(2) > 0, true);
    for (int look : outside(0, 2)) refused("look " + look, y -> y.weighs(look));
  }

  // ---- promise 17

  @Says("The fewest LOOKS KNOWN on AS at a PIER that have to be left aside so that one of its MINDS is FREE")
  static void promise17_noneHaveToBeLeftAsideWhileAMindIsFree() {
    RiverFeet x = river();
    due("no looks", x.blame(0), 0);
    row(x, 0);
    x.look(0, 2, 35, 0, 2);
    due("A 8 is free", x.blame(0), 0);
    row(x, 56);
    x.look(0, 3, 5, 0, 3);
    due("mind 63 alone is free", x.blame(0), 0);
    row(x, 63);
    x.look(0, 3, 4, 0, 3);
    due("none is free", x.blame(0), 1);
  }

  @Says("so that one of its MINDS is FREE")
  static void promise17_freeIsEnoughThoughThePierQuarrelsThroughItsBed() {
    RiverFeet x = quarrel();
    due("quarrels", x.state(1, 0), 4);
    due("nothing to blame at it", x.blame(1), 0);
    row(x, 0);
    due("the look at the other", x.blame(0), 1);
    row(x, 0, 0);
  }

  @Says("the first MIND for which they are so few")
  static void promise17_ofEqualOnesTheFirstMind() {
    RiverFeet x = river();
    x.look(0, 2, 14, 0, 2);
    x.look(0, 2, 9, 0, 2);
    due("A 2 and A 3 alike", x.blame(0), 1);
    row(x, 8, 0);
    x.look(0, 2, 14, 0, 2);
    due("A 3 has fewer", x.blame(0), 1);
    row(x, 16, 1);
  }

  @Says("then the LOOKS that bar it, ascending")
  static void promise17_theLooksThatBarItAndNoOthers() {
    RiverFeet x = river();
    x.pier(0, 10, 200, 5, 5);
    x.look(0, 2, 5, 0, 2);
    x.look(1, 2, 100, 0, 2);
    x.look(0, 2, 100, 0, 2);
    x.look(0, 1, 4, 0, 2);
    x.look(0, 2, 100, 0, 2);
    due("two", x.blame(0), 2);
    row(x, 0, 2, 4);
    due("one at the other pier", x.blame(1), 1);
    row(x, 0, 1);
  }

  @Says("LOOKS KNOWN on AS at a PIER")
  static void promise17_onlyLooksThatAreKnown() {
    RiverFeet x = river();
    x.look(0, 2, 100, 0, 2);
    x.look(0, 2, 100, 0, 10);
    x.back(0, 30);
    int[][] asManyLooks = {{1, 0}, {2, 1, 0}, {9, 1, 0}, {10, 2, 0, 1}, {29, 2, 0, 1}, {30, 1, 1}};
    for (int[] a : asManyLooks) {
      x.as(a[0]);
      due("as " + a[0], x.blame(0), a[1]);
      int[] want = new int[a.length - 1];
      System.arraycopy(a, 2, want, 1, a.length - 2);
      row(x, want);
    }
  }

  @Says("then the LOOKS that bar it")
  static void promise17_allFortyLooksMayHaveToBeLeftAside() {
    RiverFeet x = river();
    int[] want = new int[41];
    for (int i = 0; i < 40; i++) want[i + 1] = x.look(0, 2, 100, 0, 2);
    due("forty", x.blame(0), 40);
    row(x, want);
  }

  @Says("NONE: none such")
  static void promise17_thePierIsOneThatThereIs() {
    due("pier 0", busy().blame(0), 0);
    due("pier 2", busy().blame(2), 0);
    for (int pier : outside(0, 2)) refused("pier " + pier, y -> y.blame(pier));
  }

  // ---- promise 18

  @Says("0 it surely STANDS")
  static void promise18_itSurelyStandsIfByAllItStands() {
    due("ever 19, foot 19", three(19, 0).state(0, 2), 0);
    due("ever 19, foot 18", three(18, 1).state(0, 2), 3);
  }

  @Says("1 surely HANGS")
  static void promise18_itSurelyHangsIfByAllItHangs() {
    due("ever 8 .. 19, foot 7 and 12 piles", three(7, 12).state(0, 2), 1);
    due("by one it stands", three(8, 11).state(0, 2), 3);
    due("by one it is fallen", three(7, 11).state(0, 2), 3);
  }

  @Says("2 surely is FALLEN")
  static void promise18_itSurelyIsFallenIfByAllItIs() {
    due("ever 8, foot 7", three(7, 0).state(0, 2), 2);
    due("ever 8, foot 0 and 7 piles", three(0, 7).state(0, 2), 2);
    due("by one it hangs", three(0, 8).state(0, 2), 3);
    due("by one it stands", three(8, 0).state(0, 2), 3);
  }

  @Says("3 open")
  static void promise18_itIsOpenIfOneMindSaysOtherwise() {
    RiverFeet x = river();
    x.look(0, 2, 7, 2, 2);
    due("stands or hangs", x.state(0, 2), 3);
    due("stands by both on day 0", x.state(0, 0), 0);
    RiverFeet y = river();
    y.look(0, 2, 12, 3, 2);
    due("hangs or is fallen", y.state(0, 2), 3);
    due("all three", river().state(0, 2), 3);
  }

  @Says("as a DAY ends")
  static void promise18_theStateIsThatAsTheDayEnds() {
    // by minds 11, 21 and 38 EVER is 5, 8 and 13 on day 0, and 8, 12 and 19 on day 1
    due("day 0", three(13, 0).state(0, 0), 0);
    due("day 1", three(13, 0).state(0, 1), 3);
    due("day 0", three(4, 9).state(0, 0), 1);
    due("day 0", three(5, 0).state(0, 0), 3);
    due("day 1", three(5, 0).state(0, 1), 2);
    due("day 399", three(5, 0).state(0, 399), 2);
  }

  @Says("4: it QUARRELS")
  static void promise18_aPierThatQuarrelsIsInNoState() {
    RiverFeet x = quarrel();
    due("quarrels", x.state(0, 0), 4);
    due("through its bed", x.state(1, 399), 4);
    x.as(9);
    due("not yet", x.state(0, 0), 3);
    refused("no such day", NONE, Edge::quarrel, y -> y.state(0, 400));
  }

  @Says("NONE: none such")
  static void promise18_thePierAndTheDayAreOnesThatThereAre() {
    due("pier 2, day 0", busy().state(2, 0), 3);
    due("pier 0, day 399", busy().state(0, 399), 3);
    for (int pier : outside(0, 2)) refused("pier " + pier, y -> y.state(pier, 0));
    for (int day : outside(0, 399)) refused("day " + day, y -> y.state(0, day));
  }

  // ---- promise 19

  @Says("of MINDS KEPT the least and the greatest HOLE, the least and the greatest EVER as a DAY ends; how many MINDS")
  static void promise19_theEndsOfHoleAndOfEver() {
    RiverFeet x = three(5, 5);
    due("day 2", x.ends(0, 2), 3);
    row(x, 5, 5, 8, 19);
    due("day 1", x.ends(0, 1), 3);
    row(x, 8, 19, 8, 19);
    due("day 0", x.ends(0, 0), 3);
    row(x, 5, 13, 5, 13);
  }

  @Says("of MINDS KEPT")
  static void promise19_oneMindHasBothEndsAlike() {
    RiverFeet x = river();
    x.look(0, 2, 35, 0, 2);
    x.look(0, 3, 5, 0, 3);
    due("mind 63", x.ends(0, 3), 1);
    row(x, 5, 5, 35, 35);
    RiverFeet y = mind0();
    due("mind 0", y.ends(0, 3), 1);
    row(y, 9, 9, 9, 9);
  }
  /** By A 1 the hole is 9 as day 2 ends; by B 0 alone it is 9 as day 3 ends too. */
  private static RiverFeet mind0() {
    RiverFeet x = flood(5, 5, 50, 50, 50);
    x.look(0, 2, 9, 0, 2);
    x.look(0, 3, 9, 0, 3);
    return x;
  }

  @Says("of MINDS KEPT")
  static void promise19_mindsThatAreFreeButNotKeptHaveNoPartInIt() {
    RiverFeet x = river();
    x.pier(0, 10, 200, 5, 5);
    x.look(0, 2, 9, 0, 2);
    due("A 2 alone", x.ends(1, 2), 8);
    row(x, 9, 9, 9, 9);
  }

  @Says("the greatest HOLE")
  static void promise19_theEndsGoFrom0To200() {
    RiverFeet x = flood(0, 0, 0);
    due("no holes", x.ends(0, 0), 64);
    row(x, 0, 0, 0, 0);
    for (int i = 0; i < 20; i++) x.tree(0, 0, 20);
    x.flows(1, 2, 20, 99, 0);
    due("all at rock", x.ends(0, 20), 64);
    row(x, 200, 200, 200, 200);
  }

  @Says("it QUARRELS")
  static void promise19_aPierThatQuarrelsHasNoEnds() {
    refused("quarrels", NONE, Edge::quarrel, y -> y.ends(0, 2));
    refused("quarrels through its bed", NONE, Edge::quarrel, y -> y.ends(1, 2));
    RiverFeet x = quarrel();
    x.as(9);
    due("not yet", x.ends(0, 2), 64);
  }

  @Says("NONE: none such")
  static void promise19_thePierAndTheDayAreOnesThatThereAre() {
    due("pier 2, day 0", busy().ends(2, 0), 64);
    due("pier 0, day 399", busy().ends(0, 399) > 0, true);
    for (int pier : outside(0, 2)) refused("pier " + pier, y -> y.ends(pier, 0));
    for (int day : outside(0, 399)) refused("day " + day, y -> y.ends(0, day));
  }

  // ---- promise 20

  @Says("how many in 1000 (cut) answer a QUESTION (0, 1) by yes")
  static void promise20_sharesOfThoseThatStandAreCut() {
    int[][] footAndShare = {{7, 0}, {8, 333}, {11, 333}, {12, 666}, {18, 666}, {19, 1000}};
    for (int[] f : footAndShare) due("foot " + f[0], three(f[0], 5).share(0, 2, 0), f[1]);
  }

  @Says("how many in 1000 (cut) answer a QUESTION (0, 1) by yes")
  static void promise20_sharesOfThoseThatAreFallenAreCut() {
    int[][] pilesAndShare = {{7, 1000}, {8, 666}, {11, 666}, {12, 333}, {18, 333}, {19, 0}};
    for (int[] p : pilesAndShare) due(p[0] + " piles", three(0, p[0]).share(0, 2, 1), p[1]);
  }

  @Says("answer a QUESTION (0, 1) by yes")
  static void promise20_whatHangsAnswersNeitherByYes() {
    due("stands", three(7, 12).share(0, 2, 0), 0);
    due("is fallen", three(7, 12).share(0, 2, 1), 0);
  }

  @Says("a QUESTION (0, 1)")
  static void promise20_theQuestionIs0Or1() {
    due("question 0", busy().share(2, 0, 0), 125);
    due("question 1", busy().share(2, 0, 1), 0);
    for (int question : outside(0, 1)) refused("question " + question, y -> y.share(2, 0, question));
  }

  @Says("NONE: others")
  static void promise20_thePierAndTheDayAreOnesThatThereAre() {
    due("pier 0, day 399", busy().share(0, 399, 0) >= 0, true);
    for (int pier : outside(0, 2)) refused("pier " + pier, y -> y.share(pier, 0, 0));
    for (int day : outside(0, 399)) refused("day " + day, y -> y.share(0, day, 0));
  }

  @Says("it QUARRELS")
  static void promise20_aPierThatQuarrelsHasNoShare() {
    for (int question : new int[] {0, 1}) {
      refused("quarrels", NONE, Edge::quarrel, y -> y.share(0, 2, question));
      refused("quarrels through its bed", NONE, Edge::quarrel, y -> y.share(1, 2, question));
    }
    RiverFeet x = quarrel();
    x.as(9);
    due("not yet", x.share(0, 2, 0), 125);
  }
}
