/** Boundary cases of term 1 (the river and its minds) and of promises 1 to 8. */
final class RiverEdges extends Edge {
  // ---- term 1

  @Says("no HOLE is deeper")
  static void promise7_term1_aHoleComesDownToRockAndNoDeeper() {
    RiverFeet x = new RiverFeet();
    x.bed();
    x.pier(0, 20, 30, 99, 0);
    x.flows(0, 2, 20, 99, 0);
    for (int day = 0; day < 20; day++) due("not below rock", x.hole(0, 63, day, 0) <= 30, true);
    due("at rock", x.hole(0, 63, 19, 0), 30);
    due("goal above rock", x.hole(0, 8, 0, 2), 30);
    due("goal above rock: half of rock", x.hole(0, 63, 0, 0), 15);
  }

  @Says("ROCK at most")
  static void promise7_term1_aGoalIsRockAtMost() {
    for (int rock = 49; rock <= 51; rock++) {
      RiverFeet x = new RiverFeet();
      x.bed();
      x.pier(0, 20, rock, 0, 0);
      x.flows(0, 2, 1, 50, 0);
      due("goal 50, rock " + rock, x.hole(0, 32, 0, 2), rock == 49 ? 49 : 50);
    }
  }

  @Says("A 1 .. 8 and B 0 .. 7; it is told as 8 times (A less 1), and B")
  static void promise7_term1_eachMindHasItsAAndItsB() {
    RiverFeet x = flood(0, 0, 80, 0);
    for (int mind = 0; mind < 64; mind++) {
      int a = mind / 8 + 1;
      int b = mind % 8;
      due("goal of mind " + mind, x.hole(0, mind, 0, 2), 16 * a);
      due("filled by mind " + mind, x.hole(0, mind, 1, 0), a * (8 - b));
    }
  }

  @Says("HOLE is 0 as DAY 0 begins")
  static void promise7_term1_theHoleBeginsAt0() {
    due("no flow", flood(0, 0, 0).hole(0, 39, 0, 0), 0);
    due("goal 1", flood(0, 0, 1).hole(0, 39, 0, 0), 1);
  }

  @Says("by 100 (cut)")
  static void promise7_term1_aGoalIsCut() {
    RiverFeet x = new RiverFeet();
    x.bed();
    x.pier(0, 1, 200, 0, 0);
    x.flows(0, 2, 3, 99, -49);
    x.flows(3, 2, 2, 66, 1);
    due("99 by 100", x.hole(0, 0, 0, 2), 0);
    due("100 by 100", x.hole(0, 8, 1, 2), 1);
    due("198 by 100", x.hole(0, 16, 3, 2), 1);
    due("201 by 100", x.hole(0, 16, 4, 2), 2);
  }

  @Says("HOLE is more by half the rest, rounded up")
  static void promise7_term1_aHoleDeepensByHalfRoundedUp() {
    int[][] goalAndHole = {{1, 1}, {2, 1}, {3, 2}, {4, 2}, {5, 3}, {98, 49}, {99, 50}};
    for (int[] g : goalAndHole) due("goal " + g[0], flood(0, 0, g[0]).hole(0, 32, 0, 0), g[1]);
    due("from hole 2 to goal 5", flood(0, 0, 4, 5).hole(0, 32, 1, 0), 4);
  }

  @Says("If GOAL is above HOLE")
  static void promise7_term1_aGoalAtTheHoleLeavesIt() {
    due("goal above by 1", flood(0, 0, 4, 3).hole(0, 39, 1, 0), 3);
    due("goal at the hole", flood(0, 0, 4, 2).hole(0, 39, 1, 0), 2);
    due("goal below by 1, cut", flood(0, 0, 4, 1).hole(0, 39, 1, 0), 2);
    due("goal below by 2", flood(0, 0, 4, 0).hole(0, 39, 1, 0), 1);
  }

  @Says("else it is less by the rest times B by 8 (cut)")
  static void promise7_term1_aHoleFillsByEighthsCut() {
    RiverFeet x = flood(0, 0, 18, 0);
    int[] filled = {9, 8, 7, 6, 5, 4, 3, 2};
    for (int b = 0; b < 8; b++) due("9 with B " + b, x.hole(0, 32 + b, 1, 0), filled[b]);
    due("B 0 never fills", x.hole(0, 32, 399, 0), 9);
    due("a rest of 1 never fills", x.hole(0, 39, 399, 0), 1);
    due("a rest of 2 with B 3 never fills", flood(0, 0, 4, 0).hole(0, 35, 399, 0), 2);
    due("a rest of 2 with B 4 fills once", flood(0, 0, 4, 0).hole(0, 36, 399, 0), 1);
    due("the rest is down to the goal, not to 0", flood(0, 0, 18, 5).hole(0, 36, 1, 0), 7);
  }

  @Says("EVER: the greatest HOLE at a DAY's end up to a DAY")
  static void promise7_term1_everIsTheGreatestHoleSoFar() {
    RiverFeet x = flood(0, 0, 16, 0, 15, 16);
    int[][] holeAndEver = {{8, 8}, {1, 8}, {8, 8}, {12, 12}};
    for (int day = 3; day >= 0; day--) {
      due("hole of day " + day, x.hole(0, 39, day, 0), holeAndEver[day][0]);
      due("ever on day " + day, x.hole(0, 39, day, 1), holeAndEver[day][1]);
    }
  }

  @Says("It STANDS by a MIND on a DAY, if EVER is not above FOOT")
  static void promise7_term1_itStandsDownToItsFoot() {
    due("ever 8, foot 8", flood(8, 0, 16).hole(0, 32, 0, 3), 0);
    due("ever 8, foot 7", flood(7, 99, 16).hole(0, 32, 0, 3), 1);
    due("ever 0, foot 0", flood(0, 0, 0).hole(0, 32, 0, 3), 0);
    due("ever 1, foot 0", flood(0, 99, 1).hole(0, 32, 0, 3), 1);
  }

  @Says("HANGS, if EVER is above FOOT, not above FOOT and PILES together; else it is FALLEN")
  static void promise7_term1_itHangsDownToItsPiles() {
    due("ever 8, foot 6 and 2 piles", flood(6, 2, 16).hole(0, 32, 0, 3), 1);
    due("ever 8, foot 6 and 1 pile", flood(6, 1, 16).hole(0, 32, 0, 3), 2);
    due("ever 8, foot 7 and no piles", flood(7, 0, 16).hole(0, 32, 0, 3), 2);
    due("ever 8, foot 0 and 8 piles", flood(0, 8, 16).hole(0, 32, 0, 3), 1);
  }

  @Says("FALLEN")
  static void promise7_term1_whatHasFallenStaysSoThoughTheHoleFills() {
    RiverFeet x = flood(2, 3, 16, 0);
    due("the hole is above the foot again", x.hole(0, 39, 1, 0), 1);
    due("and it has fallen", x.hole(0, 39, 1, 3), 2);
    due("on the last day too", x.hole(0, 39, 399, 3), 2);
  }

  @Says("its GOAL is A times FLOW times WIDTH")
  static void promise7_term1_aGoalIsOfTheDaysOwnFlow() {
    RiverFeet x = flood(0, 0, 0, 1, 99, 0);
    int[] want = {0, 1, 99, 0};
    for (int day = 0; day < want.length; day++) due("A 5 on day " + day, x.hole(0, 39, day, 2), want[day]);
    due("A 1", x.hole(0, 7, 2, 2), 19);
    due("A 8", x.hole(0, 56, 2, 2), 158);
    for (int i = 0; i < 20; i++) x.tree(0, 0, 20);
    due("420 wide", x.hole(0, 0, 1, 2), 4);
    due("rock at most", x.hole(0, 63, 2, 2), 200);
  }

  // ---- promise 1

  @Says("Nothing told")
  static void promise1_nothingIsCounted() {
    RiverFeet x = new RiverFeet();
    for (int what = 0; what <= 10; what++) due("count(" + what + ")", x.count(what), what == 5 ? 399 : 0);
  }

  @Says("each with a FLOW 0 .. 99 (at first 0)")
  static void promise1_term1_eachFlowIs0() {
    RiverFeet x = new RiverFeet();
    for (int day = 0; day < 400; day++) due("flow(" + day + ")", x.flow(day), 0);
  }

  @Says("Nothing told")
  static void promise1_theRowIsEmpty() {
    row(new RiverFeet());
  }

  @Says("Nothing told")
  static void promise1_thereIsNoBedPierLookBridgeOrStep() {
    Call[] calls = {
      x -> x.pier(0, 1, 1, 0, 0), x -> x.tree(0, 0, 1), x -> x.hole(0, 0, 0, 0), x -> x.when(0, 0, 0), x -> x.kept(0, 0),
      x -> x.minds(0), x -> x.shared(0), x -> x.look(0, 0, 0, 0, 0), x -> x.bars(0), x -> x.weighs(0), x -> x.blame(0),
      x -> x.state(0, 0), x -> x.ends(0, 0), x -> x.share(0, 0, 0), x -> x.worst(0, 0, 0), x -> x.next(0, 0, 0, 0),
      x -> x.plan(0, 0, 1, 1, 1, 0), x -> x.settles(0, 0, 0, 0, 1, 1, 0), x -> x.lay(0), x -> x.proof(0, 0),
      x -> x.bridge(1, 0), x -> x.truth(0, 0), x -> x.shut(0, 0, 0), x -> x.run(0, 0, 0, 0), x -> x.best(0, 0, 0, 0),
      x -> x.offer(0, 1, 1)};
    for (int i = 0; i < calls.length; i++) refused("call " + i + " on a new object", NONE, RiverFeet::new, calls[i]);
    refused("back on a new object", 0, RiverFeet::new, x -> x.back(0, 0) ? 1 : 0);
    refused("check on a new object", -100, RiverFeet::new, x -> x.check(0));
  }

  @Says("Nothing told")
  static void promise1_whatIsToldToOneObjectIsNotToldToAnother() {
    busy();
    promise1_nothingIsCounted();
    promise1_term1_eachFlowIs0();
  }

  // ---- promise 2

  @Says("FLOWS from a DAY on")
  static void promise2_theEntriesBeginOnTheDayAndEndBehindTheLast() {
    RiverFeet x = new RiverFeet();
    x.flows(0, 2, 10, 9, 0);
    due("flows", x.flows(3, 2, 4, 20, 1), 4);
    int[] want = {9, 9, 9, 20, 21, 22, 23, 9, 9, 9, 0};
    for (int day = 0; day < want.length; day++) due("flow(" + day + ")", x.flow(day), want[day]);
  }

  @Says("FLOWS from a DAY on")
  static void promise2_flowsToldAgainChangeWhatWasSaidOfThoseDays() {
    RiverFeet x = flood(0, 0, 16, 16, 16);
    x.look(0, 2, 15, 0, 2);
    due("hole", x.hole(0, 39, 2, 0), 14);
    due("bars", x.bars(0), 64);
    x.flows(2, 2, 1, 18, 0);
    due("hole", x.hole(0, 39, 2, 0), 15);
    due("hole of the day ahead", x.hole(0, 39, 1, 0), 12);
    due("bars", x.bars(0), 56);
    x.flows(1, 2, 1, 17, 0);
    due("hole of the day behind", x.hole(0, 39, 2, 0), 16);
    due("bars", x.bars(0), 64);
    x.flows(3, 2, 1, 99, 0);
    due("hole of the day ahead", x.hole(0, 39, 2, 0), 16);
  }

  @Says("FLOWS from a DAY on")
  static void promise2_flowsToldAgainChangeAllDaysBehindThem() {
    for (int day : CHANGED) {
      RiverFeet asked = twoPiersInAFlood();
      due("hole ahead", asked.hole(0, 39, 399, 0) >= 0 && asked.hole(1, 62, 399, 0) >= 0, true);
      RiverFeet notAsked = twoPiersInAFlood();
      asked.flows(day, 2, 1, 99, 0);
      notAsked.flows(day, 2, 1, 99, 0);
      sameStories(day, asked, notAsked);
    }
  }

  private static final int[] CHANGED = {0, 1, 38, 39, 40, 41, 79, 80, 81, 200, 398, 399};

  private static RiverFeet twoPiersInAFlood() {
    RiverFeet x = flood(9, 9, 60, 2);
    x.pier(0, 11, 100, 9, 9);
    for (int day = 2; day < 400; day += 60) x.flows(day, 2, 60, 9, 0);
    return x;
  }

  /** Stories asked for ahead of a change on a day and behind it are those that were asked for behind it alone. */
  private static void sameStories(int changed, RiverFeet asked, RiverFeet notAsked) {
    for (int day : new int[] {399, changed, 0, 39, 40, 79, 80, 398}) {
      for (int pier = 0; pier < 2; pier++) {
        for (int mind : new int[] {0, 33, 39, 63}) {
          for (int what = 0; what < 2; what++) {
            String call = "changed on day " + changed + ": hole(" + pier + ", " + mind + ", " + day + ", " + what + ")";
            due(call, asked.hole(pier, mind, day, what), notAsked.hole(pier, mind, day, what));
          }
        }
      }
    }
  }

  @Says("no such DAY")
  static void promise2_days0And399AreTakenOthersAreNot() {
    RiverFeet x = new RiverFeet();
    due("day 0", x.flows(0, 2, 1, 5, 0), 1);
    due("day 399", x.flows(399, 2, 1, 6, 0), 1);
    due("flow(0)", x.flow(0), 5);
    due("flow(399)", x.flow(399), 6);
    for (int day : outside(0, 399)) refused("day " + day, y -> y.flows(day, 2, 1, 5, 0));
  }

  @Says("no such DAY, kind")
  static void promise2_kinds0To3AreTakenOthersAreNot() {
    RiverFeet x = new RiverFeet();
    int[] want = {2, 2, 2, -3};
    for (int kind = 0; kind <= 3; kind++) due("kind " + kind, x.flows(0, kind, 2, 5, 0), want[kind]);
    for (int kind : outside(0, 3)) refused("kind " + kind, y -> y.flows(0, kind, 1, 5, 0));
  }

  @Says("n above 60")
  static void promise2_sixtyEntriesAreTakenSixtyOneAreNot() {
    for (int kind : new int[] {0, 1, 2}) {
      RiverFeet x = new RiverFeet();
      due("60 of kind " + kind, x.flows(100, kind, 60, 5, 0), 60);
      due("flow(159)", x.flow(159), 5);
      due("flow(160)", x.flow(160), 0);
      for (int n : new int[] {61, Integer.MAX_VALUE}) refused(n + " of kind " + kind, y -> y.flows(0, kind, n, 5, 0));
    }
    refused("60 of a missing sheet", -3, Edge::busy, y -> y.flows(0, 3, 60, 5, 0));
    refused("61 of a missing sheet", y -> y.flows(0, 3, 61, 5, 0));
  }

  @Says("of n entries f, f + step, ..")
  static void promise2_noEntriesChangeNothing() {
    for (int kind : new int[] {0, 1, 2}) refused("0 of kind " + kind, 0, Edge::busy, y -> y.flows(0, kind, 0, 5, 0));
    RiverFeet x = new RiverFeet();
    due("one entry has no step", x.flows(0, 2, 1, 5, 90), 1);
    due("flow(0)", x.flow(0), 5);
    due("flow(1)", x.flow(1), 0);
  }

  @Says("-2: n below 0 (of kinds 0 .. 2; nothing changes)")
  static void promise2_fewerThanNoEntriesAreMinus2() {
    for (int kind : new int[] {0, 1, 2}) {
      for (int n : new int[] {-1, Integer.MIN_VALUE}) {
        refused(n + " of kind " + kind, -2, Edge::busy, y -> y.flows(0, kind, n, 5, 0));
      }
    }
    refused("a missing sheet has no n below 0", -3, Edge::busy, y -> y.flows(0, 3, -1, 5, 0));
  }

  @Says("-3: missing")
  static void promise2_aMissingSheetIsMinus3AndChangesNothing() {
    for (int n : new int[] {0, 1, 60}) refused("missing, n " + n, -3, Edge::busy, y -> y.flows(0, 3, n, 5, 0));
  }

  @Says("NONE: no such DAY, kind, n above 60 (these first)")
  static void promise2_noneIsAheadOfMinus2AndMinus3() {
    refused("no such day, n below 0", y -> y.flows(400, 2, -1, 5, 0));
    refused("day 399, n below 0", -2, Edge::busy, y -> y.flows(399, 2, -1, 5, 0));
    refused("no such day, missing", y -> y.flows(-1, 3, 1, 5, 0));
    refused("day 0, missing", -3, Edge::busy, y -> y.flows(0, 3, 1, 5, 0));
    refused("no such kind, n below 0", y -> y.flows(0, 4, -1, 5, 0));
    refused("no such kind, n below 0", y -> y.flows(0, -1, -1, 5, 0));
  }

  @Says("of bytes, shorts the lowest bits, with their sign")
  static void promise2_bytesHaveEightBitsAndASign() {
    int[][] entryAndFlow = {{50, 50}, {127, 99}, {128, 0}, {255, 0}, {256, 0}, {256 + 50, 50}, {256 + 127, 99}, {256 + 128, 0},
        {50 - 256, 50}, {-1, 0}, {-128, 0}, {-129, 99}, {Integer.MAX_VALUE, 0}, {Integer.MIN_VALUE, 0}, {Integer.MIN_VALUE + 7, 7}};
    entries(0, entryAndFlow);
  }

  @Says("of bytes, shorts the lowest bits, with their sign")
  static void promise2_shortsHaveSixteenBitsAndASign() {
    int[][] entryAndFlow = {{50, 50}, {128, 99}, {255, 99}, {256, 99}, {32767, 99}, {32768, 0}, {65535, 0}, {65536, 0},
        {65536 + 50, 50}, {65536 + 32767, 99}, {65536 + 32768, 0}, {50 - 65536, 50}, {-1, 0}, {-32768, 0}, {-32769, 99},
        {Integer.MAX_VALUE, 0}, {Integer.MIN_VALUE, 0}, {Integer.MIN_VALUE + 7, 7}};
    entries(1, entryAndFlow);
  }

  @Says("ints (2)")
  static void promise2_intsHaveAllTheirBits() {
    int[][] entryAndFlow = {{50, 50}, {128, 99}, {32768, 99}, {65536, 99}, {65536 + 50, 99}, {50 - 256, 0}, {50 - 65536, 0},
        {Integer.MAX_VALUE, 99}, {Integer.MIN_VALUE, 0}};
    entries(2, entryAndFlow);
  }

  private static void entries(int kind, int[][] entryAndFlow) {
    for (int[] e : entryAndFlow) {
      RiverFeet x = new RiverFeet();
      x.flows(0, 2, 1, 33, 0);
      due("an entry " + e[0], x.flows(0, kind, 1, e[0], 1), 1);
      due("flow of an entry " + e[0], x.flow(0), e[1]);
    }
  }

  @Says("below 0: 0, above 99: 99")
  static void promise2_flowsAreCutAt0And99() {
    for (int kind = 0; kind <= 2; kind++) {
      RiverFeet x = new RiverFeet();
      x.flows(0, 2, 5, 50, 0);
      x.flows(0, kind, 3, 1, -1);
      x.flows(3, kind, 3, 98, 1);
      int[] want = {1, 0, 0, 98, 99, 99};
      for (int day = 0; day < 6; day++) due("kind " + kind + ", flow(" + day + ")", x.flow(day), want[day]);
    }
  }

  @Says("entries f, f + step, ..")
  static void promise2_entriesThatRunOverTheirBitsBeginAgainBelow() {
    RiverFeet x = new RiverFeet();
    x.flows(0, 2, 12, 33, 0);
    x.flows(0, 2, 3, Integer.MAX_VALUE, 1);
    x.flows(3, 2, 3, Integer.MIN_VALUE, -1);
    x.flows(6, 0, 3, 44, 128);
    x.flows(9, 1, 3, 44, 32768);
    int[] want = {99, 0, 0, 0, 99, 99, 44, 0, 44, 44, 0, 44};
    for (int day = 0; day < want.length; day++) due("flow(" + day + ")", x.flow(day), want[day]);
  }

  @Says("those behind DAY 399 are left aside")
  static void promise2_entriesBehindDay399AreLeftAside() {
    RiverFeet x = new RiverFeet();
    due("just up to day 399", x.flows(340, 2, 60, 5, 0), 60);
    due("flow(399)", x.flow(399), 5);
    due("one too many", x.flows(341, 2, 60, 6, 0), 60);
    due("flow(340)", x.flow(340), 5);
    due("flow(341)", x.flow(341), 6);
    due("flow(399)", x.flow(399), 6);
    due("all but the first", x.flows(399, 2, 60, 7, 1), 60);
    due("flow(399)", x.flow(399), 7);
    due("flow(398)", x.flow(398), 6);
    for (int day = 0; day < 60; day++) due("flow(" + day + ")", x.flow(day), 0);
  }

  // ---- promise 3

  @Says("NONE: none such")
  static void promise3_days0And399HaveAFlowOthersHaveNone() {
    RiverFeet x = new RiverFeet();
    x.flows(0, 2, 1, 5, 0);
    x.flows(399, 2, 1, 6, 0);
    due("flow(0)", x.flow(0), 5);
    due("flow(399)", x.flow(399), 6);
    for (int day : outside(0, 399)) refused("flow(" + day + ")", y -> y.flow(day));
  }

  // ---- promise 4

  @Says("Refused: 4")
  static void promise4_theFourthBedIsTheLast() {
    RiverFeet x = new RiverFeet();
    for (int i = 0; i < 4; i++) due("bed()", x.bed(), i);
    refused("a fifth bed", NONE, RiverEdges::fourBeds, y -> y.bed());
    due("count(0)", x.count(0), 4);
    due("a pier in the fourth", x.pier(3, 1, 1, 0, 0), 0);
  }
  private static RiverFeet fourBeds() {
    RiverFeet x = busy();
    x.bed();
    x.bed();
    return x;
  }

  // ---- promise 5

  @Says("`int pier(int bed, int width, int rock, int foot, int piles)`: A PIER: its number")
  static void promise5_refusedPiersTakeNoNumber() {
    RiverFeet x = busy();
    due("refused", x.pier(0, 0, 1, 0, 0), NONE);
    due("the fourth", x.pier(1, 1, 1, 0, 0), 3);
    due("count(1)", x.count(1), 4);
  }

  @Says("Refused: others")
  static void promise5_theBedIsOneThatThereIs() {
    RiverFeet x = busy();
    due("bed 0", x.pier(0, 1, 1, 0, 0), 3);
    due("bed 1", x.pier(1, 1, 1, 0, 0), 4);
    for (int bed : outside(0, 1)) refused("bed " + bed, y -> y.pier(bed, 1, 1, 0, 0));
    refused("a bed not told yet", NONE, RiverFeet::new, y -> y.pier(0, 1, 1, 0, 0));
    x.bed();
    due("bed 2, told now", x.pier(2, 1, 1, 0, 0), 5);
  }

  @Says("WIDTH 1 .. 20")
  static void promise5_term1_widthIs1To20() {
    RiverFeet x = busy();
    due("width 1", x.pier(0, 1, 200, 0, 0), 3);
    due("width 20", x.pier(0, 20, 200, 0, 0), 4);
    due("goal of width 1", x.hole(3, 63, 0, 2), 4);
    due("goal of width 20", x.hole(4, 63, 0, 2), 80);
    for (int width : outside(1, 20)) refused("width " + width, y -> y.pier(0, width, 200, 0, 0));
  }

  @Says("ROCK 1 .. 200")
  static void promise5_term1_rockIs1To200() {
    RiverFeet x = busy();
    due("rock 1", x.pier(0, 20, 1, 0, 0), 3);
    due("rock 200", x.pier(0, 20, 200, 0, 0), 4);
    x.flows(10, 2, 20, 99, 0);
    for (int i = 0; i < 5; i++) x.tree(4, 0, 20);
    due("hole at rock 1", x.hole(3, 63, 29, 0), 1);
    due("hole at rock 200", x.hole(4, 63, 29, 0), 200);
    for (int rock : outside(1, 200)) refused("rock " + rock, y -> y.pier(0, 1, rock, 0, 0));
  }

  @Says("FOOT 0 .. 99")
  static void promise5_term1_footIs0To99() {
    RiverFeet x = busy();
    due("foot 0", x.pier(0, 1, 1, 0, 0), 3);
    due("foot 99", x.pier(0, 1, 1, 99, 0), 4);
    for (int foot : outside(0, 99)) refused("foot " + foot, y -> y.pier(0, 1, 1, foot, 0));
  }

  @Says("PILES 0 .. 99")
  static void promise5_term1_pilesAre0To99() {
    RiverFeet x = busy();
    due("0 piles", x.pier(0, 1, 1, 0, 0), 3);
    due("99 piles", x.pier(0, 1, 1, 0, 99), 4);
    for (int piles : outside(0, 99)) refused(piles + " piles", y -> y.pier(0, 1, 1, 0, piles));
  }

  @Says("Refused: others, 8")
  static void promise5_theEighthPierIsTheLast() {
    RiverFeet x = sevenPiers();
    due("the eighth", x.pier(1, 20, 200, 99, 99), 7);
    due("it is there", x.hole(7, 63, 399, 3), 0);
    refused("a ninth", NONE, RiverEdges::eightPiers, y -> y.pier(0, 1, 1, 0, 0));
    due("count(1)", x.count(1), 8);
    due("none such", x.hole(8, 63, 399, 3), NONE);
  }
  private static RiverFeet sevenPiers() {
    RiverFeet x = busy();
    for (int i = 3; i < 7; i++) x.pier(0, 5, 50, 5, 5);
    return x;
  }
  private static RiverFeet eightPiers() {
    RiverFeet x = sevenPiers();
    x.pier(1, 20, 200, 99, 99);
    return x;
  }

  // ---- promise 6

  @Says("WIDTH (with all TREES of DAYS not above it)")
  static void promise6_term1_theyCountFromTheirOwnDayOn() {
    RiverFeet x = river();
    due("tree", x.tree(0, 1, 10), 1);
    due("the day ahead", x.hole(0, 0, 0, 2), 5);
    due("the day ahead, A 8", x.hole(0, 56, 0, 2), 40);
    due("their day", x.hole(0, 0, 1, 2), 10);
    due("their day, A 8", x.hole(0, 56, 1, 2), 80);
    due("the day behind", x.hole(0, 0, 2, 2), 10);
    due("tree", x.tree(0, 2, 4), 2);
    due("the day ahead of the second", x.hole(0, 0, 1, 2), 10);
    due("both", x.hole(0, 0, 2, 2), 12);
  }

  @Says("TREES at a PIER from a DAY on")
  static void promise6_treesChangeWhatWasSaidOfThoseDays() {
    RiverFeet x = river();
    x.look(0, 1, 7, 0, 1);
    due("hole", x.hole(0, 0, 1, 0), 4);
    due("bars", x.bars(0), 64);
    x.tree(0, 1, 10);
    due("hole", x.hole(0, 0, 1, 0), 7);
    due("hole of the day ahead", x.hole(0, 0, 0, 0), 3);
    due("bars", x.bars(0), 56);
  }

  @Says("TREES at a PIER from a DAY on")
  static void promise6_treesChangeAllDaysBehindThem() {
    for (int day : CHANGED) {
      RiverFeet asked = twoPiersInAFlood();
      due("hole ahead", asked.hole(0, 39, 399, 0) >= 0 && asked.hole(1, 62, 399, 0) >= 0, true);
      RiverFeet notAsked = twoPiersInAFlood();
      asked.tree(1, day, 20);
      notAsked.tree(1, day, 20);
      sameStories(day, asked, notAsked);
    }
  }

  @Says("TREES at a PIER")
  static void promise6_theyWidenTheirOwnPierAlone() {
    RiverFeet x = river();
    x.pier(0, 10, 200, 5, 5);
    x.tree(1, 0, 10);
    due("the other", x.hole(0, 0, 0, 2), 5);
    due("their own", x.hole(1, 0, 0, 2), 10);
  }

  @Says("Refused: others")
  static void promise6_thePierIsOneThatThereIs() {
    due("pier 0", busy().tree(0, 0, 1), 2);
    due("pier 2", busy().tree(2, 0, 1), 2);
    for (int pier : outside(0, 2)) refused("pier " + pier, y -> y.tree(pier, 0, 1));
  }

  @Says("Refused: others")
  static void promise6_theDayIs0To399() {
    RiverFeet x = busy();
    due("day 0", x.tree(0, 0, 1), 2);
    due("day 399", x.tree(0, 399, 20), 3);
    due("goal on day 398", x.hole(0, 63, 398, 2), 0);
    due("goal on day 399", x.hole(0, 63, 399, 2), 17);
    for (int day : outside(0, 399)) refused("day " + day, y -> y.tree(0, day, 1));
  }

  @Says("TREES from a DAY on make it so much wider (1 .. 20")
  static void promise6_term1_theyAre1To20Wide() {
    RiverFeet x = busy();
    due("1 wider", x.tree(0, 0, 1), 2);
    due("goal with 11", x.hole(0, 8, 0, 2), 11);
    due("20 wider", x.tree(0, 0, 20), 3);
    due("goal with 31", x.hole(0, 8, 0, 2), 31);
    for (int wider : outside(1, 20)) refused(wider + " wider", y -> y.tree(0, 0, wider));
  }

  @Says("how many were told. Refused: others, 20")
  static void promise6_theTwentiethOfAllPiersAreTheLast() {
    RiverFeet x = busy();
    for (int i = 2; i <= 20; i++) due("tree", x.tree(i % 3, 300, 1), i);
    for (int pier : new int[] {0, 1, 2}) refused("the 21st at pier " + pier, NONE, RiverEdges::twentyTrees, y -> y.tree(pier, 300, 1));
    due("count(2)", x.count(2), 20);
  }
  private static RiverFeet twentyTrees() {
    RiverFeet x = busy();
    for (int i = 2; i <= 20; i++) x.tree(i % 3, 300, 1);
    return x;
  }

  // ---- promise 7

  @Says("NONE: others")
  static void promise7_thePierIsOneThatThereIs() {
    due("pier 0", busy().hole(0, 0, 0, 0), 3);
    due("pier 2", busy().hole(2, 0, 0, 0), 2);
    for (int pier : outside(0, 2)) refused("pier " + pier, y -> y.hole(pier, 0, 0, 0));
  }

  @Says("By a MIND (0 .. 63)")
  static void promise7_theMindIs0To63() {
    due("mind 0", busy().hole(0, 0, 0, 0), 3);
    due("mind 63", busy().hole(0, 63, 0, 0), 20);
    for (int what : new int[] {0, 1, 2, 3}) {
      for (int mind : outside(0, 63)) refused("mind " + mind, y -> y.hole(0, mind, 0, what));
    }
  }

  @Says("as a DAY ends")
  static void promise7_theDayIs0To399() {
    due("day 0", busy().hole(0, 0, 0, 0), 3);
    due("day 399", busy().hole(0, 0, 399, 2), 0);
    due("day 399", busy().hole(0, 63, 399, 2), 5);
    for (int what : new int[] {0, 1, 2, 3}) {
      for (int day : outside(0, 399)) refused("day " + day, y -> y.hole(0, 0, day, what));
    }
  }

  @Says("what 0: HOLE, 1: EVER, 2: GOAL, 3: 0 it STANDS, 1 HANGS, 2 is FALLEN")
  static void promise7_whatIs0To3() {
    RiverFeet x = flood(9, 5, 20, 4);
    int[] want = {7, 10, 4, 1};
    for (int what = 0; what <= 3; what++) due("what " + what, x.hole(0, 36, 1, what), want[what]);
    for (int what : outside(0, 3)) refused("what " + what, y -> y.hole(0, 0, 0, what));
  }

  @Says("as a DAY ends")
  static void promise7_daysMayBeAskedInAnyOrder() {
    RiverFeet x = twoPiersInAFlood();
    RiverFeet y = twoPiersInAFlood();
    int[] days = {0, 1, 38, 39, 40, 41, 79, 80, 81, 120, 199, 200, 358, 360, 398, 399};
    int[] minds = {0, 39, 63};
    int[][] ascending = new int[minds.length][days.length];
    for (int i = 0; i < days.length; i++) {
      for (int m = 0; m < minds.length; m++) ascending[m][i] = x.hole(0, minds[m], days[i], 0);
    }
    for (int i = days.length - 1; i >= 0; i--) {
      for (int m = 0; m < minds.length; m++) due("mind " + minds[m] + ", day " + days[i], y.hole(0, minds[m], days[i], 0), ascending[m][i]);
    }
    due("day 0", y.hole(0, 39, 0, 0), 30);
    due("day 1", y.hole(0, 39, 1, 0), 6);
  }

  // ---- promise 8

  @Says("The first DAY as which ends a PIER does not STAND (what 0)")
  static void promise8_itDoesNotStandFromTheDayOnWhereEverIsAboveFoot() {
    due("hole 8 on day 0, foot 7", flood(7, 0, 16).when(0, 32, 0), 0);
    due("hole 8 on day 0, foot 8", flood(8, 0, 16).when(0, 32, 0), NONE);
    due("hole 9 on day 1, foot 8", flood(8, 0, 16, 10).when(0, 32, 0), 1);
    due("it need not fall", flood(7, 1, 16).when(0, 32, 0), 0);
  }

  @Says("is FALLEN (1) by a MIND")
  static void promise8_itIsFallenFromTheDayOnWhereEverIsAboveThePiles() {
    due("hole 8 on day 0, foot 5 and 2 piles", flood(5, 2, 16).when(0, 32, 1), 0);
    due("hole 8 on day 0, foot 5 and 3 piles", flood(5, 3, 16).when(0, 32, 1), NONE);
    due("it hangs", flood(5, 3, 16).when(0, 32, 0), 0);
    due("hole 9 on day 1", flood(5, 3, 16, 10).when(0, 32, 1), 1);
  }

  @Says("NONE: never")
  static void promise8_day399IsTheLastOnWhichItMayBe() {
    RiverFeet x = flood(5, 0);
    due("never", x.when(0, 32, 0), NONE);
    due("never", x.when(0, 32, 1), NONE);
    x.flows(399, 2, 1, 10, 0);
    due("hole 5 on day 399", x.when(0, 32, 0), NONE);
    x.flows(399, 2, 1, 11, 0);
    due("hole 6 on day 399", x.when(0, 32, 0), 399);
    due("hole 6 on day 399", x.when(0, 32, 1), 399);
  }

  @Says("never, others")
  static void promise8_whatIs0Or1OfAPierAndAMindThatThereAre() {
    due("what 0", busy().when(0, 63, 0), 0);
    due("what 1", busy().when(0, 63, 1), 0);
    due("pier 2", busy().when(2, 63, 0), 0);
    due("mind 0", busy().when(1, 0, 0), 2);
    for (int what : outside(0, 1)) refused("what " + what, y -> y.when(0, 63, what));
    for (int pier : outside(0, 2)) refused("pier " + pier, y -> y.when(pier, 63, 0));
    for (int mind : outside(0, 63)) refused("mind " + mind, y -> y.when(0, mind, 0));
  }
}
