/** Boundary cases of term 3 (looks to come, plans and proofs) and of promises 21 to 28. */
final class AheadEdges extends Edge {
  // ---- term 3

  @Says("does it STAND (0), is it FALLEN (1)?")
  static void promise24_term3_whatHangsAnswersBothQuestionsByNo() {
    // by A 1 it stands, by A 2 it hangs, by A 3 it is fallen as day 2 ends
    RiverFeet x = river();
    x.look(0, 2, 10, 5, 2);
    due("stands", x.share(0, 2, 0), 333);
    due("is fallen", x.share(0, 2, 1), 333);
    x.look(0, 2, 9, 0, 2);
    due("both settled by no", x.settles(0, 0, 2, 0, 1, 1, 0), 0);
    due("both settled by no", x.settles(0, 1, 2, 0, 1, 1, 0), 0);
  }

  @Says("whose HOLE at that DAY's end is not farther from s than E")
  static void promise21_term3_whatIsAsFarAsALookErrsIsLeft() {
    // holes as day 2 ends: 5, 9, 14, 18, 22, 27, 31, 35, of eight minds each
    int[][] errsAndLeft = {{0, 8}, {3, 8}, {4, 24}, {7, 24}, {8, 32}, {9, 40}, {16, 56}, {17, 64}, {50, 64}};
    for (int[] e : errsAndLeft) due("errs " + e[0], river().worst(0, 2, e[0]), e[1]);
  }

  @Says("s may be the HOLE of any of them")
  static void promise21_term3_nothingElseIsSeenThanAHoleOfOneOfThem() {
    RiverFeet x = river();
    x.look(0, 2, 7, 2, 2);
    // holes 5 and 9: 7, as far as 2 from both, is not seen
    due("errs 2", x.worst(0, 2, 2), 8);
    due("errs 3", x.worst(0, 2, 3), 8);
    due("errs 4", x.worst(0, 2, 4), 16);
    due("errs 2", x.plan(0, 2, 1, 1, 1, 2), 8);
  }

  @Says("s may be the HOLE of any of them")
  static void promise23_term3_aSecondLookSeesAHoleOfThoseThatTheFirstOneLeft() {
    RiverFeet x = mixed(38, 18, 90, 10, 90);
    // if it could see holes of minds that were put aside, it would be 8, and three looks would not settle it
    due("two looks", x.plan(0, 0, 1, 4, 2, 3), 7);
    due("settles", x.settles(0, 0, 2, 0, 1, 4, 3), 2);
  }

  @Says("A PLAN of at most k LOOKS (1 .. 3) at a PIER")
  static void promise23_term3_moreLooksLeaveFewer() {
    RiverFeet x = mixed(9, 28, 30, 50, 90, 0, 10);
    int[] want = {8, 4, 3};
    for (int k = 1; k <= 3; k++) due("k " + k, x.plan(0, 0, 1, 6, k, 1), want[k - 1]);
  }

  @Says("each later than the one ahead")
  static void promise23_term3_noLookIsAheadOfTheOneBefore() {
    // in any order two looks would leave 5, and two would settle the question
    RiverFeet x = mixed(41, 20, 70, 0, 90);
    x.look(0, 2, 19, 5, 2);
    due("minds", x.minds(0), 15);
    due("two looks", x.plan(0, 0, 1, 4, 2, 3), 6);
    due("settles", mixed(35, 14, 30, 10, 0, 90).settles(0, 0, 3, 0, 1, 5, 2), -2);
  }

  @Says("each chosen by what was seen so far")
  static void promise23_term3_theSecondDayMayDependOnWhatTheFirstSaw() {
    // of any two days told beforehand 3 would be left
    RiverFeet x = mixed(29, 21, 70, 10, 10);
    due("two looks", x.plan(0, 0, 1, 4, 2, 0), 2);
    row(x, 1);
  }

  @Says("of those that are KEPT; others put aside by BEDS are not thought of again")
  static void promise23_term3_aPlanIsOfTheMindsKept() {
    RiverFeet x = river();
    x.pier(0, 10, 200, 5, 5);
    x.look(1, 2, 9, 0, 2);
    due("all are free", x.kept(0, 0), 2);
    due("minds", x.minds(0), 8);
    due("nothing parts on day 2", x.plan(0, 2, 1, 1, 1, 0), 8);
    row(x, NONE);
    due("worst", x.worst(0, 2, 50), 8);
    due("settles", x.settles(0, 0, 2, 0, 1, 1, 50), 0);
  }

  @Says("One may stop sooner")
  static void promise23_term3_aRowOfFewerDaysThanLooksWillDo() {
    RiverFeet x = river();
    for (int k = 1; k <= 3; k++) {
      due("one day, k " + k, x.plan(0, 2, 1, 1, k, 0), 8);
      row(x, 2);
    }
  }

  @Says("One may stop sooner")
  static void promise23_term3_oneMindIsNotLookedAtAgain() {
    RiverFeet x = river();
    x.look(0, 2, 35, 0, 2);
    x.look(0, 3, 5, 0, 3);
    due("one mind", x.plan(0, 0, 1, 6, 3, 0), 1);
    row(x, NONE);
  }

  // ---- promise 21

  @Says("whatever is seen")
  static void promise21_itIsTheGreatestNumberThatMayBeLeft() {
    RiverFeet x = river();
    x.look(0, 2, 5, 0, 2);
    // holes as day 3 ends: 5, 5, 4, 4, 3, 2, 2, 1
    int[] want = {2, 5, 8};
    for (int errs = 0; errs < want.length; errs++) due("errs " + errs, x.worst(0, 3, errs), want[errs]);
  }

  @Says("The greatest number of MINDS left (of those KEPT)")
  static void promise21_fromOneMindToAllOfThem() {
    RiverFeet x = new RiverFeet();
    x.bed();
    x.pier(0, 18, 200, 5, 5);
    x.tree(0, 0, 20);
    x.tree(0, 0, 3);
    int[] flows = {14, 83, 7, 68};
    for (int day = 0; day < 4; day++) x.flows(day, 2, 1, flows[day], 0);
    due("each mind has another hole", x.worst(0, 3, 0), 1);
    due("no mind has a hole", flood(0, 0).worst(0, 0, 0), 64);
  }

  @Says("on a DAY that errs by E (0 .. 50)")
  static void promise21_errsIs0To50() {
    due("errs 0", river().worst(0, 2, 0), 8);
    due("errs 50", river().worst(0, 2, 50), 64);
    for (int errs : outside(0, 50)) refused("errs " + errs, y -> y.worst(0, 2, errs));
  }

  @Says("a LOOK more on a DAY that errs by E (0 .. 50)")
  static void promise21_holesAt0AndAt200AreSeenToo() {
    RiverFeet x = deep();
    due("all at 200", x.worst(0, 20, 0), 64);
    due("all at 200, errs 50", x.worst(0, 20, 50), 64);
    due("B 0 at 200, the others each 25 less", x.worst(0, 21, 0), 8);
    due("errs 24", x.worst(0, 21, 24), 8);
    due("errs 25", x.worst(0, 21, 25), 24);
    due("errs 50", x.worst(0, 21, 50), 40);
    due("no holes, errs 50", flood(0, 0).worst(0, 0, 50), 64);
  }
  /** All holes are at 200 as day 20 ends, then there is no flow. */
  private static RiverFeet deep() {
    RiverFeet x = flood(5, 5);
    for (int i = 0; i < 20; i++) x.tree(0, 0, 20);
    x.flows(0, 2, 21, 99, 0);
    return x;
  }

  @Says("NONE: others")
  static void promise21_thePierAndTheDayAreOnesThatThereAre() {
    due("pier 2, day 399", busy().worst(2, 399, 50), 64);
    due("pier 0, day 0", busy().worst(0, 0, 0) > 0, true);
    for (int pier : outside(0, 2)) refused("pier " + pier, y -> y.worst(pier, 0, 0));
    for (int day : outside(0, 399)) refused("day " + day, y -> y.worst(0, day, 0));
  }

  @Says("it QUARRELS")
  static void promise21_aPierThatQuarrelsHasNone() {
    for (int pier : new int[] {0, 1}) refused("pier " + pier, NONE, Edge::quarrel, y -> y.worst(pier, 2, 0));
    RiverFeet x = quarrel();
    x.as(9);
    due("not yet", x.worst(0, 2, 0), 8);
  }

  // ---- promise 22

  @Says("The DAY from .. to (0 .. 399, to not below from) with the least worst()")
  static void promise22_bothEndsAreAmongTheDays() {
    RiverFeet x = river();
    x.look(0, 2, 5, 0, 2);
    due("day 3 is the last", x.next(0, 0, 3, 0), 3);
    row(x, 2);
    due("day 3 is no more among them", x.next(0, 0, 2, 0), 0);
    row(x, 8);
    due("day 3 is the first", x.next(0, 3, 3, 0), 3);
    row(x, 2);
    due("day 3 is the first", x.next(0, 3, 399, 0), 3);
    row(x, 2);
  }

  @Says("of equal ones the first; the ROW: that number")
  static void promise22_ofEqualDaysTheFirst() {
    RiverFeet x = river();
    due("days 0, 1, 2 part alike", x.next(0, 0, 2, 0), 0);
    row(x, 8);
    due("days 1, 2", x.next(0, 1, 2, 0), 1);
    row(x, 8);
    due("no day parts", x.next(0, 0, 399, 50), 0);
    row(x, 64);
    RiverFeet y = flood(0, 0);
    y.flows(399, 2, 1, 50, 0);
    due("the last parts", y.next(0, 0, 399, 0), 399);
    row(y, 8);
    due("the one ahead does not", y.next(0, 0, 398, 0), 0);
    row(y, 64);
  }

  @Says("with the least worst()")
  static void promise22_twoAreNotTheLeastWhereOneMayBeLeft() {
    // holes 5, 8 and 13 as day 0 ends, 8, 12 and 19 as day 1 ends
    RiverFeet x = three(5, 5);
    due("day 0 leaves two", x.next(0, 0, 0, 3), 0);
    row(x, 2);
    due("day 1 leaves one", x.next(0, 0, 2, 3), 1);
    row(x, 1);
  }

  @Says("from .. to (0 .. 399, to not below from)")
  static void promise22_fromAndToAre0To399AndToIsNotBelowFrom() {
    due("0 .. 0", busy().next(0, 0, 0, 0), 0);
    due("399 .. 399", busy().next(0, 399, 399, 0), 399);
    due("5 .. 5", busy().next(0, 5, 5, 0), 5);
    refused("5 .. 4", y -> y.next(0, 5, 4, 0));
    for (int from : outside(0, 399)) refused("from " + from, y -> y.next(0, from, 399, 0));
    for (int to : outside(0, 399)) refused("to " + to, y -> y.next(0, 0, to, 0));
    refused("400 .. 400", y -> y.next(0, 400, 400, 0));
    refused("-1 .. -1", y -> y.next(0, -1, -1, 0));
  }

  @Says("NONE: others")
  static void promise22_errsIs0To50OfAPierThatThereIs() {
    due("errs 50, pier 2", busy().next(2, 0, 4, 50), 0);
    due("errs 0, pier 2", busy().next(2, 0, 4, 0) >= 0, true);
    for (int errs : outside(0, 50)) refused("errs " + errs, y -> y.next(0, 0, 4, errs));
    for (int pier : outside(0, 2)) refused("pier " + pier, y -> y.next(pier, 0, 4, 0));
  }

  @Says("it QUARRELS")
  static void promise22_aPierThatQuarrelsHasNone() {
    for (int pier : new int[] {0, 1}) refused("pier " + pier, NONE, Edge::quarrel, y -> y.next(pier, 0, 4, 0));
    RiverFeet x = quarrel();
    x.as(9);
    due("not yet", x.next(0, 2, 2, 0), 2);
  }

  // ---- promise 23

  @Says("the WORST of the best PLAN of at most k LOOKS that err by E")
  static void promise23_oneTwoAndThreeLooks() {
    RiverFeet x = mixed(59, 17, 50, 0, 50, 0, 10, 90);
    int[] want = {15, 12, 11};
    for (int k = 1; k <= 3; k++) due("k " + k, x.plan(0, 0, 1, 5, k, 2), want[k - 1]);
  }

  @Says("the WORST of the best PLAN")
  static void promise23_twoAreNotTheBestWhereOneMayBeLeft() {
    // holes 5, 8 and 13 as day 0 ends, 8, 12 and 19 as day 1 ends
    RiverFeet x = three(5, 5);
    due("day 0 leaves two", x.plan(0, 0, 1, 1, 1, 3), 2);
    row(x, 0);
    due("day 1 leaves one", x.plan(0, 0, 1, 2, 1, 3), 1);
    row(x, 1);
  }

  @Says("whatever is seen")
  static void promise23_term3_aMindMoreThanTheSightBeforeLeftCounts() {
    // minds 0, 1 and 2, holes 8, 7 and 6 as day 3 ends: seen 6 leaves two, seen 7 leaves mind 0 too
    RiverFeet x = mixed(5, 5, 90, 90, 90, 0);
    x.look(0, 1, 8, 1, 1);
    x.look(0, 3, 7, 1, 3);
    due("minds", x.minds(0), 3);
    row(x, 0, 1, 2);
    due("errs 1", x.plan(0, 3, 1, 1, 1, 1), 3);
    row(x, NONE);
    due("errs 0", x.plan(0, 3, 1, 1, 1, 0), 1);
    row(x, 3);
  }

  @Says("the first DAY of such a PLAN (the least")
  static void promise23_ofEqualPlansTheLeastFirstDay() {
    RiverFeet x = river();
    x.look(0, 2, 5, 0, 2);
    due("one look, on day 3", x.plan(0, 2, 1, 2, 1, 0), 2);
    row(x, 3);
    due("with two one may look on day 2 first", x.plan(0, 2, 1, 2, 2, 0), 2);
    row(x, 2);
    due("days 1 and 2 part alike", river().plan(0, 1, 1, 2, 1, 0), 8);
    RiverFeet y = river();
    y.plan(0, 1, 1, 2, 1, 0);
    row(y, 1);
  }

  @Says("NONE: none is better than to stop")
  static void promise23_theRowIsNoneWhereNoPlanLeavesFewer() {
    RiverFeet x = river();
    x.look(0, 2, 5, 0, 2);
    due("nothing parts on days 0, 1, 2", x.plan(0, 0, 1, 3, 3, 0), 8);
    row(x, NONE);
    due("holes 1 .. 5, errs 2", x.plan(0, 3, 1, 1, 1, 2), 8);
    row(x, NONE);
    due("holes 1 .. 5, errs 1", x.plan(0, 3, 1, 1, 1, 1), 5);
    row(x, 3);
  }

  @Says("DAYS of the row from, from + by, ..")
  static void promise23_onlyTheDaysOfTheRow() {
    RiverFeet x = flood(0, 0);
    x.flows(10, 2, 1, 50, 0);
    x.look(0, 11, 0, 50, 11);
    // nothing is seen ahead of day 10, and B alone parts behind it
    due("0, 3, .. 9", x.plan(0, 0, 3, 4, 1, 0), 64);
    row(x, NONE);
    due("0, 5, 10", x.plan(0, 0, 5, 3, 1, 0), 8);
    row(x, 10);
    due("0, 5", x.plan(0, 0, 5, 2, 1, 0), 64);
    row(x, NONE);
    due("10", x.plan(0, 10, 50, 1, 1, 0), 8);
    row(x, 10);
  }

  @Says("many of them, 1 .. 6")
  static void promise23_manyIs1To6() {
    RiverFeet x = flood(0, 0);
    x.flows(5, 2, 1, 50, 0);
    due("one", x.plan(0, 5, 1, 1, 1, 0), 8);
    due("the sixth is among them", x.plan(0, 0, 1, 6, 1, 0), 8);
    row(x, 5);
    due("five", x.plan(0, 0, 1, 5, 1, 0), 64);
    for (int many : outside(1, 6)) refused("many " + many, y -> y.plan(0, 200, 1, many, 1, 0));
  }

  @Says("by 1 .. 50")
  static void promise23_byIs1To50() {
    RiverFeet x = flood(0, 0);
    x.flows(51, 2, 1, 50, 0);
    due("by 1", x.plan(0, 50, 1, 2, 1, 0), 8);
    row(x, 51);
    due("by 50", x.plan(0, 1, 50, 2, 1, 0), 8);
    row(x, 51);
    for (int by : outside(1, 50)) {
      refused("by " + by, y -> y.plan(0, 200, by, 2, 1, 0));
      refused("by " + by + ", one day", y -> y.plan(0, 200, by, 1, 1, 0));
    }
  }

  @Says("none above 399")
  static void promise23_noDayOfTheRowIsAbove399() {
    RiverFeet x = river();
    due("149, 199, .. 399", x.plan(0, 149, 50, 6, 1, 50), 64);
    refused("150, 200, .. 400", y -> y.plan(0, 150, 50, 6, 1, 50));
    due("398, 399", x.plan(0, 398, 1, 2, 1, 50), 64);
    refused("399, 400", y -> y.plan(0, 399, 1, 2, 1, 50));
    due("399", x.plan(0, 399, 50, 1, 1, 50), 64);
    refused("400", y -> y.plan(0, 400, 1, 1, 1, 50));
    due("0", x.plan(0, 0, 50, 1, 1, 50), 64);
    for (int from : outside(0, 399)) refused("from " + from, y -> y.plan(0, from, 1, 2, 1, 50));
  }

  @Says("at most k LOOKS")
  static void promise23_kIs1To3() {
    due("k 1", busy().plan(0, 0, 1, 6, 1, 0) > 0, true);
    due("k 3", busy().plan(0, 0, 1, 6, 3, 0) > 0, true);
    for (int k : outside(1, 3)) refused("k " + k, y -> y.plan(0, 0, 1, 6, k, 0));
  }

  @Says("NONE: others")
  static void promise23_errsIs0To50OfAPierThatThereIs() {
    due("errs 50, pier 2", busy().plan(2, 0, 1, 6, 1, 50), 64);
    due("errs 0, pier 0", busy().plan(0, 0, 1, 6, 1, 0) > 0, true);
    for (int errs : outside(0, 50)) refused("errs " + errs, y -> y.plan(0, 0, 1, 6, 1, errs));
    for (int pier : outside(0, 2)) refused("pier " + pier, y -> y.plan(pier, 0, 1, 6, 1, 0));
  }

  @Says("it QUARRELS")
  static void promise23_aPierThatQuarrelsHasNone() {
    for (int pier : new int[] {0, 1}) refused("pier " + pier, NONE, Edge::quarrel, y -> y.plan(pier, 2, 1, 1, 1, 0));
    RiverFeet x = quarrel();
    x.as(9);
    due("not yet", x.plan(0, 2, 1, 1, 1, 0), 8);
  }

  // ---- promise 24

  @Says("all MINDS left answer a QUESTION about a DAY alike")
  static void promise24_noLookWhereAllAnswerAlikeByYesOrByNo() {
    int[][] footPilesQuestionLooks = {{19, 0, 0, 0}, {18, 0, 0, 1}, {7, 12, 0, 0}, {8, 12, 0, 1}, {0, 7, 1, 0}, {0, 8, 1, 1},
        {7, 12, 1, 0}, {7, 11, 1, 1}};
    for (int[] f : footPilesQuestionLooks) {
      due("foot " + f[0] + ", piles " + f[1] + ", question " + f[2], three(f[0], f[1]).settles(0, f[2], 2, 0, 1, 1, 0), f[3]);
    }
  }

  @Says("The fewest LOOKS (0 .. 3) of a PLAN (as plan())")
  static void promise24_oneTwoOrThreeLooks() {
    due("one", river().settles(0, 0, 2, 0, 1, 1, 0), 1);
    due("two", mixed(40, 18, 30, 70, 10, 10, 90, 0).settles(0, 0, 5, 0, 1, 6, 1), 2);
    due("two, on the only two days", mixed(9, 18, 70, 0, 50).settles(0, 1, 2, 0, 1, 2, 2), 2);
    due("three", mixed(59, 19, 90, 60, 0, 0, 90, 90, 90, 0, 30).settles(0, 0, 12, 0, 2, 6, 5), 3);
  }

  @Says("-2: three don't do")
  static void promise24_minus2WhereThreeDoNotThoughFourWould() {
    due("four would", mixed(35, 14, 30, 10, 0, 90).settles(0, 0, 3, 0, 1, 5, 2), -2);
    due("no number would", river().settles(0, 0, 2, 0, 1, 6, 50), -2);
    refused("it leaves the row", -2, Edge::river, y -> y.settles(0, 0, 2, 0, 1, 6, 50));
  }

  @Says("whatever is seen")
  static void promise24_oneSightThatLeavesItOpenIsEnough() {
    // of A 1 and 2, holes of 5 and 9 fill by B: on day 3 some of them are alike, on day 2 none is
    RiverFeet x = river();
    x.look(0, 2, 7, 2, 2);
    due("day 3", x.settles(0, 0, 2, 3, 1, 1, 0), -2);
    due("day 2", x.settles(0, 0, 2, 2, 1, 1, 0), 1);
    due("errs 3", x.settles(0, 0, 2, 2, 1, 1, 3), 1);
    due("errs 4", x.settles(0, 0, 2, 2, 1, 1, 4), -2);
  }

  @Says("a QUESTION about a DAY")
  static void promise24_theQuestionIs0Or1AboutADay0To399() {
    // on day 0 it stands by A 1 and 2, on day 2 by A 1; on day 0 it is fallen from A 5 on, on day 2 from A 3 on
    RiverFeet x = river();
    x.look(0, 2, 7, 2, 2);
    due("stands, day 0", x.settles(0, 0, 0, 2, 1, 1, 0), 0);
    due("stands, day 399", x.settles(0, 0, 399, 2, 1, 1, 0), 1);
    due("is fallen, day 399", x.settles(0, 1, 399, 2, 1, 1, 0), 0);
    for (int question : outside(0, 1)) refused("question " + question, y -> y.settles(0, question, 2, 0, 1, 1, 0));
    for (int day : outside(0, 399)) refused("day " + day, y -> y.settles(0, 0, day, 0, 1, 1, 0));
  }

  @Says("of a PLAN (as plan())")
  static void promise24_theRowOfDaysIsAsInPlan() {
    RiverFeet x = river();
    due("one day", x.settles(0, 0, 2, 399, 50, 1, 50), -2);
    due("149, 199, .. 399", x.settles(0, 0, 2, 149, 50, 6, 50), -2);
    refused("150, 200, .. 400", y -> y.settles(0, 0, 2, 150, 50, 6, 50));
    due("398, 399", x.settles(0, 0, 2, 398, 1, 2, 50), -2);
    refused("399, 400", y -> y.settles(0, 0, 2, 399, 1, 2, 50));
    for (int from : outside(0, 399)) refused("from " + from, y -> y.settles(0, 0, 2, from, 1, 1, 0));
    for (int by : outside(1, 50)) refused("by " + by, y -> y.settles(0, 0, 2, 0, by, 1, 0));
    for (int many : outside(1, 6)) refused("many " + many, y -> y.settles(0, 0, 2, 200, 1, many, 0));
    RiverFeet z = flood(5, 5);
    z.flows(5, 2, 1, 50, 0);
    due("the sixth day tells", z.settles(0, 0, 5, 0, 1, 6, 0), 1);
    due("the first five do not", z.settles(0, 0, 5, 0, 1, 5, 0), -2);
  }

  @Says("NONE: others")
  static void promise24_errsIs0To50OfAPierThatThereIs() {
    due("errs 0, pier 2", busy().settles(2, 0, 0, 0, 1, 1, 0), 1);
    due("errs 50, pier 2", busy().settles(2, 0, 0, 0, 1, 1, 50), -2);
    for (int errs : outside(0, 50)) refused("errs " + errs, y -> y.settles(0, 0, 2, 0, 1, 1, errs));
    for (int pier : outside(0, 2)) refused("pier " + pier, y -> y.settles(pier, 0, 2, 0, 1, 1, 0));
  }

  @Says("it QUARRELS")
  static void promise24_aPierThatQuarrelsHasNone() {
    for (int pier : new int[] {0, 1}) refused("pier " + pier, NONE, Edge::quarrel, y -> y.settles(pier, 0, 2, 0, 1, 1, 0));
    RiverFeet x = quarrel();
    x.as(9);
    due("not yet", x.settles(0, 0, 2, 0, 1, 1, 0), 1);
  }

  // ---- promise 25

  @Says("a MIND (0 .. 63)")
  static void promise25_theMindIs0To63() {
    RiverFeet x = busy();
    due("mind 0", x.prove(0, 0), 3);
    due("mind 63", x.prove(63, 0), 4);
    due("told", x.proof(2, 0), 0);
    due("told", x.proof(3, 0), 63);
    for (int mind : outside(0, 63)) refused("mind " + mind, y -> y.prove(mind, 0));
  }

  @Says("a LOOK (any number 0 .. 39)")
  static void promise25_theLookIs0To39ThoughItNeedNotBeTold() {
    RiverFeet x = new RiverFeet();
    due("look 0, not told", x.prove(0, 0), 1);
    due("look 39, not told", x.prove(0, 39), 2);
    due("told", x.proof(0, 1), 0);
    due("told", x.proof(1, 1), 39);
    for (int look : outside(0, 39)) refused("look " + look, y -> y.prove(0, look));
  }

  @Says("how many. Refused: others, 64")
  static void promise25_theSixtyFourthStepIsTheLast() {
    RiverFeet x = busy();
    for (int i = 3; i <= 64; i++) due("prove", x.prove(5, 7), i);
    refused("a 65th", NONE, AheadEdges::sixtyFourSteps, y -> y.prove(5, 7));
    due("count(6)", x.count(6), 64);
    due("the last", x.proof(63, 1), 7);
    due("none behind it", x.proof(64, 1), NONE);
    x.check(0);
    due("the first again", x.prove(5, 7), 1);
  }
  private static RiverFeet sixtyFourSteps() {
    RiverFeet x = busy();
    for (int i = 3; i <= 64; i++) x.prove(5, 7);
    return x;
  }

  // ---- promise 26

  /** Looks 0 (A 1 and 2 left, known from day 2 on) and 1 (A 1 left, from day 10 to 29) at pier 0, look 2 at pier 1. */
  private static RiverFeet proving() {
    RiverFeet x = river();
    x.pier(0, 10, 200, 5, 5);
    x.look(0, 2, 7, 2, 2);
    x.look(0, 2, 5, 0, 10);
    x.look(1, 2, 5, 0, 2);
    x.back(1, 30);
    x.as(10);
    return x;
  }

  @Says("0 RIGHT and WHOLE; 1 RIGHT alone")
  static void promise26_wholeIfEachMindThatIsNotFreeStandsInIt() {
    RiverFeet x = proving();
    for (int mind = 8; mind < 63; mind++) x.prove(mind, 1);
    due("mind 63 is lacking", x.check(0), 1);
    for (int mind = 63; mind >= 8; mind--) x.prove(mind, mind < 16 ? 1 : 0);
    due("none is lacking", x.check(0), 0);
    for (int mind = 9; mind < 64; mind++) x.prove(mind, 1);
    due("mind 8 is lacking", x.check(0), 1);
  }

  @Says("WHOLE, if all MINDS that are not FREE stand in it")
  static void promise26_term3_mindsThatAreFreeThoughNotKeptNeedNoStep() {
    RiverFeet x = proving();
    x.look(1, 2, 9, 0, 2);
    due("mind 0 is free, but not kept", x.kept(0, 0), 2);
    for (int mind = 8; mind < 64; mind++) x.prove(mind, 1);
    due("check", x.check(0), 0);
  }

  @Says("The PROOF, which is empty then, about a PIER")
  static void promise26_theProofIsEmptyThenWhateverIsFound() {
    int[][] mindLookAnswer = {{8, 1, 1}, {0, 1, -1}};
    for (int[] m : mindLookAnswer) {
      RiverFeet x = proving();
      x.prove(m[0], m[1]);
      due("check", x.check(0), m[2]);
      due("count(6)", x.count(6), 0);
      due("proof(0, 0)", x.proof(0, 0), NONE);
    }
    RiverFeet y = proving();
    y.lay(0);
    due("right and whole", y.check(0), 0);
    due("count(6)", y.count(6), 0);
    due("the empty one is right alone", y.check(0), 1);
    y.as(1);
    due("where all are free it is whole", y.check(0), 0);
  }

  @Says("-1 - i: STEP i is the first that is not as it must be")
  static void promise26_theFirstWrongStepIsTold() {
    RiverFeet x = proving();
    x.prove(0, 0);
    due("step 0", x.check(0), -1);
    x.prove(8, 1);
    x.prove(0, 0);
    x.prove(1, 0);
    due("step 1 of two wrong ones", x.check(0), -2);
    x.look(0, 2, 100, 0, 2);
    for (int mind = 0; mind < 63; mind++) x.prove(mind, 3);
    x.prove(0, 0);
    due("step 63", x.check(0), -64);
    for (int mind = 0; mind < 64; mind++) x.prove(mind, 3);
    due("none of 64", x.check(0), 0);
  }

  @Says("each LOOK bars its MIND (of the PIER)")
  static void promise26_term3_aStepsLookBarsItsMind() {
    RiverFeet x = proving();
    x.prove(16, 0);
    due("hole 14, seen 7, errs 2", x.check(0), 1);
    x.prove(15, 0);
    due("hole 9, seen 7, errs 2", x.check(0), -1);
  }

  @Says("each LOOK bars its MIND (of the PIER)")
  static void promise26_term3_aStepsLookIsAtThePier() {
    RiverFeet x = proving();
    x.prove(8, 2);
    due("at its pier", x.check(1), 1);
    x.prove(8, 2);
    due("at another pier", x.check(0), -1);
  }

  @Says("each LOOK bars its MIND")
  static void promise26_term3_aStepsLookIsOneThatThereIs() {
    RiverFeet x = proving();
    x.prove(8, 2);
    due("look 2", x.check(1), 1);
    x.prove(8, 3);
    due("look 3, not told yet", x.check(1), -1);
    x.prove(8, 39);
    due("look 39, not told yet", x.check(1), -1);
  }

  @Says("is KNOWN on AS")
  static void promise26_term3_aStepsLookIsKnownOnAs() {
    RiverFeet x = proving();
    int[][] asAndAnswer = {{9, -1}, {10, 1}, {29, 1}, {30, -1}};
    for (int[] a : asAndAnswer) {
      x.as(a[0]);
      x.prove(8, 1);
      due("as " + a[0], x.check(0), a[1]);
    }
  }

  @Says("no MIND stands twice")
  static void promise26_term3_noMindStandsTwice() {
    RiverFeet x = proving();
    x.prove(16, 0);
    x.prove(17, 0);
    due("two minds", x.check(0), 1);
    x.prove(16, 0);
    x.prove(17, 0);
    x.prove(16, 1);
    due("one twice, with another look", x.check(0), -3);
    x.prove(16, 0);
    due("it stood in another proof", x.check(0), 1);
  }

  @Says("-100: no such PIER")
  static void promise26_minus100WhereThereIsNoSuchPier() {
    due("pier 0", busy().check(0), -2);
    due("pier 2", busy().check(2), -1);
    for (int pier : outside(0, 2)) {
      RiverFeet x = busy();
      due("pier " + pier, x.check(pier), -100);
      due("the proof is empty then", x.count(6), 0);
      due("the row stays", x.count(9), 4);
    }
  }

  // ---- promise 27

  @Says("of all MINDS of a PIER that are not FREE, ascending, each with the first LOOK that does: how many STEPS")
  static void promise27_eachMindThatIsNotFreeWithTheFirstLookThatBarsIt() {
    RiverFeet x = proving();
    due("lay", x.lay(0), 56);
    for (int i = 0; i < 56; i++) {
      due("mind of step " + i, x.proof(i, 0), 8 + i);
      due("look of step " + i, x.proof(i, 1), i < 8 ? 1 : 0);
    }
    due("none behind", x.proof(56, 0), NONE);
    due("count(6)", x.count(6), 56);
    RiverFeet y = river();
    y.look(0, 2, 9, 0, 2);
    due("all but A 2", y.lay(0), 56);
    for (int i = 0; i < 56; i++) due("mind of step " + i, y.proof(i, 0), i < 8 ? i : i + 8);
  }

  @Says("the first LOOK that does")
  static void promise27_onlyLooksAtThePierThatAreKnown() {
    RiverFeet x = proving();
    x.look(1, 2, 9, 0, 20);
    due("the other pier", x.lay(1), 56);
    due("its first look", x.proof(0, 1), 2);
    x.as(20);
    due("the other pier", x.lay(1), 64);
    due("mind 0", x.proof(0, 1), 3);
    due("mind 8", x.proof(8, 1), 2);
    due("mind 16", x.proof(16, 1), 2);
    x.back(0, 15);
    due("look 0 taken back", x.lay(0), 56);
    due("mind 63", x.proof(55, 1), 1);
    x.as(30);
    due("both taken back", x.lay(0), 0);
  }

  @Says("A PROOF that is RIGHT and WHOLE is laid")
  static void promise27_whatIsLaidIsRightAndWhole() {
    RiverFeet x = proving();
    for (int day : new int[] {1, 2, 9, 10, 29, 30, 399}) {
      x.as(day);
      x.lay(0);
      due("as " + day, x.check(0), 0);
    }
  }

  @Says("of all MINDS of a PIER that are not FREE")
  static void promise27_fromNoStepsToSixtyFour() {
    RiverFeet x = proving();
    x.look(0, 2, 100, 0, 10);
    due("all", x.lay(0), 64);
    due("the last", x.proof(63, 0), 63);
    due("it is full", x.prove(0, 0), NONE);
    x.as(1);
    due("none", x.lay(0), 0);
    due("nothing is left of what was there", x.count(6), 0);
    due("there is room again", x.prove(0, 0), 1);
  }

  @Says("MINDS of a PIER that are not FREE")
  static void promise27_mindsThatAreFreeThoughNotKeptAreNotLaid() {
    RiverFeet x = quarrel();
    due("quarrels through its bed", x.lay(1), 0);
    due("its own look", x.lay(0), 64);
  }

  @Says("NONE: none such")
  static void promise27_thePierIsOneThatThereIs() {
    due("pier 0", busy().lay(0) > 0, true);
    due("pier 2", busy().lay(2), 0);
    for (int pier : outside(0, 2)) refused("pier " + pier, y -> y.lay(pier));
  }

  // ---- promise 28

  @Says("Number what 0: MIND, 1: LOOK of STEP i. NONE: none such, another what")
  static void promise28_whatIs0Or1() {
    due("the mind", busy().proof(0, 0), 25);
    due("the look", busy().proof(1, 1), 39);
    for (int what : outside(0, 1)) refused("what " + what, y -> y.proof(0, what));
  }

  @Says("NONE: none such")
  static void promise28_theStepIsOneThatThereIs() {
    due("step 0", busy().proof(0, 1), 0);
    due("step 1", busy().proof(1, 0), 63);
    for (int i : outside(0, 1)) refused("step " + i, y -> y.proof(i, 0));
    due("no steps", new RiverFeet().proof(0, 0), NONE);
    RiverFeet x = busy();
    x.check(0);
    due("steps of a proof that is empty now", x.proof(0, 0), NONE);
  }
}
