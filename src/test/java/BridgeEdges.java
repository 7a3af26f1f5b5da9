/** Boundary cases of term 4 (bridges, truth, piles offered, the row) and of promises 29 to 37. */
final class BridgeEdges extends Edge {
  private static RiverFeet bridged(RiverFeet x, int piers, int traffic) {
    x.bridge(piers, traffic);
    return x;
  }

  // ---- promise 29

  @Says("(PIERS that there are, one at least)")
  static void promise29_onePierAtLeast() {
    refused("no pier", y -> y.bridge(0, 5));
    for (int i = 0; i < 3; i++) due("pier " + i, busy().bridge(1 << i, 5), 2);
  }

  @Says("(PIERS that there are, one at least)")
  static void promise29_onlyPiersThatThereAre() {
    due("all three", busy().bridge(7, 5), 2);
    for (int bits : new int[] {8, 9, 15, 256, 1 << 30, -1, -8, Integer.MIN_VALUE, Integer.MIN_VALUE | 1}) {
      refused("bits " + bits, y -> y.bridge(bits, 5));
    }
    RiverFeet x = busy();
    x.pier(0, 10, 200, 5, 5);
    due("the fourth is there now", x.bridge(8, 5), 2);
    for (int i = 4; i < 8; i++) x.pier(0, 10, 200, 5, 5);
    due("all eight", x.bridge(255, 5), 3);
    due("a ninth is never there", allPiers().bridge(256, 5), NONE);
    due("a ninth is never there", allPiers().bridge(511, 5), NONE);
  }
  private static RiverFeet allPiers() {
    RiverFeet x = busy();
    for (int i = 3; i < 8; i++) x.pier(0, 10, 200, 5, 5);
    return x;
  }

  @Says("TRAFFIC 0 .. 999")
  static void promise29_term4_trafficIs0To999() {
    due("traffic 0", busy().bridge(1, 0), 2);
    due("traffic 999", busy().bridge(1, 999), 2);
    for (int traffic : outside(0, 999)) refused("traffic " + traffic, y -> y.bridge(1, traffic));
  }

  @Says("A BRIDGE: its number. Refused: others (PIERS that there are, one at least), 4")
  static void promise29_theFourthBridgeIsTheLast() {
    RiverFeet x = busy();
    due("the third", x.bridge(1, 5), 2);
    due("refused", x.bridge(0, 5), NONE);
    due("the fourth", x.bridge(1, 5), 3);
    due("it is there", x.shut(3, 0, 1000), 0);
    refused("a fifth", NONE, () -> bridged(bridged(busy(), 1, 5), 1, 5), y -> y.bridge(1, 5));
    due("count(7)", x.count(7), 4);
    due("none such", x.shut(4, 0, 1000), NONE);
  }

  // ---- promise 30

  @Says("TRUTH: of each PIER a MIND (at first 0)")
  static void promise30_term4_truthIsMind0AtFirst() {
    RiverFeet x = busy();
    due("pier 0", x.truth(0, 5), 0);
    due("pier 2", x.truth(2, 5), 0);
    x.pier(0, 10, 200, 5, 5);
    due("a pier told later", x.truth(3, 5), 0);
  }

  @Says("TRUTH of a PIER becomes a MIND: what it was")
  static void promise30_theMindIs0To63() {
    RiverFeet x = busy();
    due("63", x.truth(0, 63), 0);
    due("0", x.truth(0, 0), 63);
    due("0 again", x.truth(0, 0), 0);
    due("of the other", x.truth(1, 63), 9);
    for (int mind : outside(0, 63)) refused("mind " + mind, y -> y.truth(1, mind));
  }

  @Says("Refused: others")
  static void promise30_thePierIsOneThatThereIs() {
    due("pier 0", busy().truth(0, 1), 0);
    due("pier 2", busy().truth(2, 1), 0);
    for (int pier : outside(0, 2)) refused("pier " + pier, y -> y.truth(pier, 1));
  }

  // ---- promise 31

  @Says("more than p in 1000 of the MINDS KEPT do not STAND as that DAY ends")
  static void promise31_term4_moreThanPNotAsMany() {
    // as day 0 ends 48 of 64 minds do not stand
    RiverFeet x = bridged(river(), 1, 5);
    due("750 are more than 749", x.shut(0, 0, 749), 1);
    due("750 are not more than 750", x.shut(0, 0, 750), 0);
    int[][] footPShut = {{19, 0, 0}, {18, 0, 1}, {12, 333, 1}, {12, 334, 0}, {8, 666, 1}, {8, 667, 0}, {7, 999, 1}, {7, 1000, 0}};
    for (int[] f : footPShut) due("foot " + f[0] + ", p " + f[1], bridged(three(f[0], 0), 1, 5).shut(0, 2, f[1]), f[2]);
  }

  @Says("do not STAND as that DAY ends")
  static void promise31_term4_whatHangsDoesNotStand() {
    due("all hang", bridged(three(7, 12), 1, 5).shut(0, 2, 999), 1);
    due("one hangs", bridged(three(18, 1), 1, 5).shut(0, 2, 333), 1);
    due("all stand", bridged(three(19, 0), 1, 5).shut(0, 2, 0), 0);
  }

  @Says("as that DAY ends")
  static void promise31_term4_eachDayForItself() {
    // by A 2 it stands on day 0 and does not on day 1
    RiverFeet x = bridged(river(), 1, 5);
    due("day 0", x.shut(0, 0, 750), 0);
    due("day 1", x.shut(0, 1, 750), 1);
    due("day 1", x.shut(0, 1, 875), 0);
  }

  @Says("by what is KNOWN on that DAY")
  static void promise31_term4_byLooksKnownOnThatDayWhateverAsIs() {
    // the look leaves A 1, by which it stands
    RiverFeet x = bridged(river(), 1, 5);
    x.look(0, 2, 5, 0, 10);
    x.back(0, 30);
    for (int as : new int[] {0, 9, 10, 29, 30, 399}) {
      x.as(as);
      due("as " + as + ", day 9", x.shut(0, 9, 874), 1);
      due("as " + as + ", day 9", x.shut(0, 9, 875), 0);
      due("as " + as + ", day 10", x.shut(0, 10, 0), 0);
      due("as " + as + ", day 29", x.shut(0, 29, 0), 0);
      due("as " + as + ", day 30", x.shut(0, 30, 874), 1);
      due("as stays", x.count(5), as);
    }
  }

  @Says("of some PIER of it")
  static void promise31_term4_onePierOfItIsEnoughAndOthersHaveNoPart() {
    RiverFeet x = river();
    x.bed();
    x.pier(1, 10, 200, 99, 0);
    x.bridge(1, 5);
    x.bridge(2, 5);
    x.bridge(3, 5);
    due("the one that may not stand", x.shut(0, 2, 0), 1);
    due("the one that surely stands", x.shut(1, 2, 0), 0);
    due("both", x.shut(2, 2, 0), 1);
    due("shares of both are not put together", x.shut(2, 2, 874), 1);
    due("shares of both are not put together", x.shut(2, 2, 875), 0);
  }

  @Says("or it QUARRELS")
  static void promise31_term4_itIsShutWhereAPierQuarrelsByAnyShare() {
    RiverFeet x = quarrel();
    x.bed();
    x.pier(1, 10, 200, 99, 0);
    x.bridge(1, 5);
    x.bridge(2, 5);
    x.bridge(4, 5);
    x.bridge(6, 5);
    for (int as : new int[] {9, 10}) {
      x.as(as);
      due("not yet", x.shut(0, 9, 1000), 0);
      due("quarrels", x.shut(0, 10, 1000), 1);
      due("not yet", x.shut(1, 9, 1000), 0);
      due("quarrels through its bed", x.shut(1, 10, 1000), 1);
      due("in another bed", x.shut(2, 10, 0), 0);
      due("one of its piers does", x.shut(3, 10, 1000), 1);
    }
  }

  @Says("By a SHARE p (0 .. 1000)")
  static void promise31_term4_theShareIs0To1000() {
    due("p 0", busy().shut(0, 2, 0), 1);
    due("p 1000", busy().shut(0, 2, 1000), 0);
    for (int p : outside(0, 1000)) refused("p " + p, y -> y.shut(0, 2, p));
  }

  @Says("Whether a BRIDGE is SHUT on a DAY by a SHARE: 1, 0")
  static void promise31_days0And399AreAskedToo() {
    RiverFeet x = bridged(flood(5, 5), 1, 5);
    due("no flow yet", x.shut(0, 0, 0), 0);
    x.flows(399, 2, 1, 99, 0);
    due("day 398", x.shut(0, 398, 999), 0);
    due("day 399", x.shut(0, 399, 999), 1);
    x.flows(0, 2, 1, 99, 0);
    due("day 0", x.shut(0, 0, 999), 1);
  }

  @Says("NONE: others")
  static void promise31_theBridgeAndTheDayAreOnesThatThereAre() {
    due("bridge 0, day 0", busy().shut(0, 0, 1000), 0);
    due("bridge 1, day 399", busy().shut(1, 399, 1000), 0);
    for (int bridge : outside(0, 1)) refused("bridge " + bridge, y -> y.shut(bridge, 0, 0));
    for (int day : outside(0, 399)) refused("day " + day, y -> y.shut(0, day, 0));
  }

  // ---- promise 32

  @Says("on DAYS from .. to (at most 60 DAYS)")
  static void promise32_sixtyDaysAreTakenSixtyOneAreNot() {
    RiverFeet x = bridged(river(), 1, 999);
    due("0 .. 59", x.run(0, 0, 59, 0), 60);
    row(x, 0, 60, 59940);
    due("340 .. 399", x.run(0, 340, 399, 0), 60);
    refused("0 .. 60", y -> y.run(0, 0, 60, 0));
    refused("339 .. 399", y -> y.run(0, 339, 399, 0));
    refused("0 .. 399", y -> y.run(0, 0, 399, 0));
  }

  @Says("on DAYS from .. to")
  static void promise32_bothEndsAreAmongTheDays() {
    // by a share of 800 day 0 is open, days from 1 on are shut
    RiverFeet x = bridged(river(), 1, 5);
    int[][] fromToShut = {{0, 0, 0}, {0, 1, 1}, {1, 1, 1}, {1, 2, 2}, {0, 2, 2}, {399, 399, 1}};
    for (int[] f : fromToShut) {
      due(f[0] + " .. " + f[1], x.run(0, f[0], f[1], 800), f[2]);
      row(x, 0, f[2], 5 * f[2]);
    }
  }

  @Says("NONE: others")
  static void promise32_theDaysAre0To399AndNotBackward() {
    due("0 .. 0", busy().run(0, 0, 0, 1000), 0);
    due("399 .. 399", busy().run(0, 399, 399, 1000), 0);
    refused("1 .. 0", y -> y.run(0, 1, 0, 0));
    refused("399 .. 398", y -> y.run(0, 399, 398, 0));
    refused("-1 .. 0", y -> y.run(0, -1, 0, 0));
    refused("399 .. 400", y -> y.run(0, 399, 400, 0));
    for (int day : outside(0, 399)) refused(day + " .. " + day, y -> y.run(0, day, day, 0));
    refused("farthest apart", y -> y.run(0, Integer.MIN_VALUE, Integer.MAX_VALUE, 0));
    refused("farthest apart", y -> y.run(0, Integer.MAX_VALUE, Integer.MIN_VALUE, 0));
  }

  @Says("By a SHARE on DAYS")
  static void promise32_theShareIs0To1000OfABridgeThatThereIs() {
    due("p 0", busy().run(0, 2, 2, 0), 1);
    due("p 1000, bridge 1", busy().run(1, 2, 2, 1000), 0);
    for (int p : outside(0, 1000)) refused("p " + p, y -> y.run(0, 2, 2, p));
    for (int bridge : outside(0, 1)) refused("bridge " + bridge, y -> y.run(bridge, 2, 2, 0));
  }

  @Says("A SHUT DAY is FALSE, if all its PIERS STAND by TRUTH as that DAY ends")
  static void promise32_term4_aShutDayIsFalseIfByTruthAllStand() {
    RiverFeet x = river();
    x.pier(0, 10, 200, 5, 5);
    x.bridge(3, 5);
    due("both stand", x.run(0, 0, 2, 0), 3);
    row(x, 0, 3, 15);
    x.truth(1, 8);
    due("one hangs from day 1 on", x.run(0, 0, 2, 0), 3);
    row(x, 0, 1, 15);
    x.truth(1, 16);
    due("one hangs on day 0, then it is fallen", x.run(0, 0, 2, 0), 3);
    row(x, 0, 0, 15);
  }

  @Says("an open one LATE, if one of them is FALLEN by it")
  static void promise32_term4_anOpenDayIsLateIfByTruthOneIsFallen() {
    RiverFeet x = river();
    x.pier(0, 10, 200, 5, 5);
    x.bridge(3, 5);
    due("both stand", x.run(0, 0, 2, 1000), 0);
    row(x, 0, 0, 0);
    x.truth(1, 8);
    due("one hangs from day 1 on", x.run(0, 0, 2, 1000), 0);
    row(x, 0, 0, 0);
    x.truth(1, 16);
    due("one is fallen from day 1 on", x.run(0, 0, 2, 1000), 0);
    row(x, 2, 0, 0);
    x.truth(0, 63);
    due("both are: each day is counted once", x.run(0, 0, 2, 1000), 0);
    row(x, 3, 0, 0);
  }

  @Says("A SHUT DAY is FALSE")
  static void promise32_term4_shutDaysAreNotLateAndOpenOnesAreNotFalse() {
    RiverFeet x = bridged(river(), 1, 5);
    x.truth(0, 16);
    due("fallen, but shut from day 1 on", x.run(0, 0, 2, 800), 2);
    row(x, 0, 0, 10);
    x.truth(0, 0);
    due("it stands, and is open on day 0", x.run(0, 0, 2, 800), 2);
    row(x, 0, 2, 10);
  }

  @Says("by TRUTH")
  static void promise32_term4_truthNeedNotBeKeptAndOtherPiersHaveNoPart() {
    RiverFeet x = bridged(river(), 1, 5);
    x.pier(0, 10, 200, 0, 0);
    x.look(0, 2, 5, 0, 2);
    x.truth(0, 63);
    x.truth(1, 63);
    due("A 8 is barred, day 2 is open", x.run(0, 2, 2, 0), 0);
    row(x, 1, 0, 0);
    x.truth(0, 0);
    due("the other pier is fallen", x.run(0, 2, 2, 0), 0);
    row(x, 0, 0, 0);
  }

  @Says("how many are SHUT; the ROW: LATE, FALSE, TRAFFIC of SHUT ones")
  static void promise32_trafficIsThatOfShutDays() {
    due("none", bridged(river(), 1, 0).run(0, 0, 9, 0), 10);
    RiverFeet x = bridged(river(), 1, 0);
    x.run(0, 0, 9, 0);
    row(x, 0, 10, 0);
    RiverFeet y = bridged(river(), 1, 999);
    due("all open", y.run(0, 0, 9, 1000), 0);
    row(y, 0, 0, 0);
    due("nine shut", y.run(0, 0, 9, 800), 9);
    row(y, 0, 9, 8991);
  }

  @Says("By a SHARE on DAYS from .. to")
  static void promise32_eachDayByWhatIsKnownThen() {
    RiverFeet x = bridged(quarrel(), 1, 5);
    x.as(9);
    due("from day 10 on it quarrels", x.run(0, 5, 14, 1000), 5);
    row(x, 0, 5, 25);
    due("as stays", x.count(5), 9);
    x.back(0, 12);
    due("up to day 11", x.run(0, 5, 14, 1000), 2);
    row(x, 0, 2, 10);
  }

  @Says("by TRUTH as that DAY ends")
  static void promise32_term4_truthIsThatAsTheDayEndsWhereThePierQuarrelsToo() {
    RiverFeet x = bridged(river(), 1, 5);
    x.look(0, 0, 100, 0, 0);
    x.truth(0, 8);
    due("it stands as day 0 ends, then it hangs", x.run(0, 0, 2, 1000), 3);
    row(x, 0, 1, 15);
    x.flows(2, 2, 1, 0, 0);
    due("day 2 alone", x.run(0, 2, 2, 1000), 1);
    row(x, 0, 0, 5);
  }

  // ---- promise 33

  @Says("The SHARE of 0, 100, 200, .. 1000")
  static void promise33_onlyWholeHundreds() {
    // from day 0 on it is fallen; 750 do not stand on day 0, so that 749 would still shut it
    RiverFeet x = bridged(river(), 1, 10);
    x.truth(0, 63);
    due("700", x.best(0, 0, 0, 9999), 700);
    row(x, 10);
    due("800: 875 do not stand", x.best(0, 1, 2, 9999), 800);
    row(x, 20);
  }

  @Says("The SHARE of 0, 100, 200, .. 1000")
  static void promise33_0And1000AreAmongThem() {
    // by mind 56 alone ever is above 95: a share of 15 shuts it, one of 16 does not
    RiverFeet x = bridged(flood(95, 0, 80, 0, 80), 1, 10);
    x.truth(0, 56);
    due("15", x.shut(0, 2, 15), 1);
    due("16", x.shut(0, 2, 16), 0);
    due("0", x.best(0, 2, 2, 9999), 0);
    row(x, 10);
    due("1000", x.best(0, 2, 2, 9), 1000);
    row(x, 9);
  }

  @Says("of equal ones the greatest")
  static void promise33_ofEqualOnesTheGreatest() {
    RiverFeet x = bridged(river(), 1, 10);
    x.truth(0, 63);
    due("one late day is lighter", x.best(0, 0, 0, 9), 1000);
    row(x, 9);
    due("as heavy", x.best(0, 0, 0, 10), 1000);
    row(x, 10);
    due("heavier", x.best(0, 0, 0, 11), 700);
    row(x, 10);
    RiverFeet y = bridged(flood(99, 99), 1, 10);
    due("never shut, never late", y.best(0, 0, 59, 9999), 1000);
    row(y, 0);
    RiverFeet z = bridged(quarrel(), 1, 10);
    due("shut by any share", z.best(0, 10, 19, 9999), 1000);
    row(z, 100);
  }

  @Says("weight (0 .. 9999) times LATE (as run())")
  static void promise33_weightIs0To9999() {
    RiverFeet x = bridged(river(), 1, 999);
    x.truth(0, 63);
    due("weight 0", x.best(0, 0, 59, 0), 1000);
    row(x, 0);
    due("weight 9999", x.best(0, 0, 59, 9999), 700);
    row(x, 59940);
    for (int weight : outside(0, 9999)) refused("weight " + weight, y -> y.best(0, 0, 9, weight));
  }

  @Says("TRAFFIC of SHUT DAYS and weight (0 .. 9999) times LATE")
  static void promise33_bothAreInTheSum() {
    // by 800 day 0 is open and late, days 1 and 2 are shut
    RiverFeet x = bridged(river(), 1, 10);
    x.truth(0, 63);
    x.look(0, 2, 9, 0, 1);
    // from day 1 on A 2 alone is left: shut by any share below 1000
    due("day 0 shut by 700", x.best(0, 0, 2, 11), 700);
    row(x, 30);
    due("all open by 1000", x.best(0, 0, 2, 10), 1000);
    row(x, 30);
    due("all open by 1000", x.best(0, 0, 2, 3), 1000);
    row(x, 9);
  }

  @Says("(as run())")
  static void promise33_theDaysAreAsInRun() {
    RiverFeet x = bridged(river(), 1, 5);
    due("0 .. 59", x.best(0, 0, 59, 0), 1000);
    due("340 .. 399", x.best(0, 340, 399, 0), 1000);
    due("399 .. 399", x.best(0, 399, 399, 0), 1000);
    refused("0 .. 60", y -> y.best(0, 0, 60, 0));
    refused("339 .. 399", y -> y.best(0, 339, 399, 0));
    refused("1 .. 0", y -> y.best(0, 1, 0, 0));
    refused("-1 .. 0", y -> y.best(0, -1, 0, 0));
    refused("399 .. 400", y -> y.best(0, 399, 400, 0));
    for (int day : outside(0, 399)) refused(day + " .. " + day, y -> y.best(0, day, day, 0));
    refused("farthest apart", y -> y.best(0, Integer.MAX_VALUE, Integer.MIN_VALUE, 0));
  }

  @Says("NONE: others")
  static void promise33_theBridgeIsOneThatThereIs() {
    due("bridge 0", busy().best(0, 0, 0, 0), 1000);
    due("bridge 1", busy().best(1, 0, 0, 0), 1000);
    for (int bridge : outside(0, 1)) refused("bridge " + bridge, y -> y.best(bridge, 0, 0, 0));
  }

  // ---- promise 34

  @Says("Refused: others")
  static void promise34_thePierIsOneThatThereIs() {
    due("pier 0", busy().offer(0, 1, 1), 3);
    due("pier 2", busy().offer(2, 1, 1), 3);
    for (int pier : outside(0, 2)) refused("pier " + pier, y -> y.offer(pier, 1, 1));
  }

  @Says("of a PIER so many more (1 .. 99)")
  static void promise34_term4_from1To99More() {
    due("1 more", busy().offer(0, 1, 1), 3);
    due("99 more", busy().offer(0, 99, 1), 3);
    for (int more : outside(1, 99)) refused(more + " more", y -> y.offer(0, more, 1));
  }

  @Says("at a COST 1 .. 999")
  static void promise34_term4_theCostIs1To999() {
    due("cost 1", busy().offer(0, 1, 1), 3);
    due("cost 999", busy().offer(0, 1, 999), 3);
    for (int cost : outside(1, 999)) refused("cost " + cost, y -> y.offer(0, 1, cost));
  }

  @Says("PILES OFFERED: how many were told. Refused: others, 10")
  static void promise34_theTenthOfAllPiersIsTheLast() {
    RiverFeet x = busy();
    for (int i = 3; i <= 10; i++) due("offer", x.offer(i % 3, 1, 1), i);
    for (int pier : new int[] {0, 1, 2}) refused("an 11th for pier " + pier, NONE, BridgeEdges::tenOffers, y -> y.offer(pier, 1, 1));
    due("count(8)", x.count(8), 10);
  }
  private static RiverFeet tenOffers() {
    RiverFeet x = busy();
    for (int i = 3; i <= 10; i++) x.offer(i % 3, 1, 1);
    return x;
  }

  @Says("PILES OFFERED")
  static void promise34_whatIsOfferedIsNotBuilt() {
    RiverFeet x = three(5, 5);
    due("open", x.state(0, 2), 3);
    x.offer(0, 99, 1);
    due("chosen", x.choose(9999, 2), 1);
    due("open still", x.state(0, 2), 3);
    due("fallen by mind 38", x.hole(0, 38, 2, 3), 2);
  }

  // ---- promise 35

  @Says("the most PIERS surely are not FALLEN as a DAY ends")
  static void promise35_asManyPilesAsTheDeepestMindWants() {
    // ever is 19 by mind 38: foot 5, piles 5 and 9 more
    for (int more = 8; more <= 10; more++) {
      RiverFeet x = three(5, 5);
      x.offer(0, more, 1);
      due(more + " more", x.choose(1, 2), more == 8 ? 0 : 1);
      row(x, more == 8 ? 0 : 1, more == 8 ? 0 : 1);
    }
  }

  @Says("surely are not FALLEN")
  static void promise35_toHangIsEnoughAndNothingIsBoughtForIt() {
    for (int piles = 11; piles <= 13; piles++) {
      RiverFeet x = three(7, piles);
      x.offer(0, 1, 1);
      due("ever 19, foot 7 and " + piles, x.choose(9999, 2), 1);
      row(x, piles == 11 ? 1 : 0, piles == 11 ? 1 : 0);
    }
  }

  @Says("surely are not FALLEN")
  static void promise35_noHoleWantsNoFootAndMind0IsAMindToo() {
    RiverFeet x = flood(0, 0);
    x.offer(0, 1, 1);
    due("no hole, no foot, no piles", x.choose(1, 0), 1);
    row(x, 0, 0);
    // the looks leave mind 0 alone, by which ever is 9
    for (int piles = 8; piles <= 9; piles++) {
      RiverFeet y = flood(0, piles, 50, 50, 50);
      y.look(0, 2, 9, 0, 2);
      y.look(0, 3, 9, 0, 3);
      y.offer(0, 1, 1);
      due(piles + " piles", y.choose(1, 3), 1);
      row(y, piles == 8 ? 1 : 0, piles == 8 ? 1 : 0);
    }
  }

  @Says("as a DAY ends")
  static void promise35_theDayIs0To399AndWhatIsKnownIsThatOnAs() {
    // by minds 11, 21 and 38 ever is 13 at most on day 0, 19 from day 1 on; by all minds it is 20 and 30
    RiverFeet x = three(5, 5);
    x.offer(0, 3, 1);
    x.offer(0, 9, 2);
    x.offer(0, 10, 4);
    x.offer(0, 20, 8);
    int[][] asDayBits = {{399, 0, 1}, {399, 1, 2}, {399, 399, 2}, {2, 0, 1}, {1, 0, 3}, {1, 1, 7}, {0, 399, 7}};
    for (int[] a : asDayBits) {
      x.as(a[0]);
      due("as " + a[0] + ", day " + a[1], x.choose(9, a[1]), 1);
      row(x, a[2], a[2]);
    }
    for (int day : outside(0, 399)) refused("day " + day, y -> y.choose(9, day));
  }

  @Says("that COST money (0 .. 9999) at most")
  static void promise35_asMuchAsThereIsMoneyAndNoMore() {
    RiverFeet x = three(5, 5);
    x.offer(0, 9, 50);
    due("money 49", x.choose(49, 2), 0);
    row(x, 0, 0);
    due("money 50", x.choose(50, 2), 1);
    row(x, 1, 50);
    due("money 51", x.choose(51, 2), 1);
    row(x, 1, 50);
  }

  @Says("money (0 .. 9999)")
  static void promise35_moneyIs0To9999() {
    RiverFeet x = three(5, 5);
    for (int i = 0; i < 10; i++) x.offer(0, 1, 999);
    due("money 0", x.choose(0, 2), 0);
    due("money 8990: eight piles", x.choose(8990, 2), 0);
    row(x, 0, 0);
    due("money 8991: nine piles", x.choose(8991, 2), 1);
    row(x, 511, 8991);
    due("money 9999", x.choose(9999, 2), 1);
    for (int money : outside(0, 9999)) refused("money " + money, y -> y.choose(money, 2));
  }

  @Says("Of all sets of PILES OFFERED")
  static void promise35_allTenMayBeChosen() {
    RiverFeet x = three(5, 4);
    for (int i = 0; i < 10; i++) x.offer(0, 1, 999);
    due("ten piles", x.choose(9990, 2), 1);
    row(x, 1023, 9990);
    due("nine do not do", x.choose(9989, 2), 0);
    row(x, 0, 0);
  }

  @Says("the one with which the most PIERS surely are not FALLEN")
  static void promise35_morePiersAreAheadOfLessCost() {
    RiverFeet x = twoPiers();
    x.offer(0, 25, 1);
    x.offer(1, 25, 500);
    due("both", x.choose(501, 2), 2);
    row(x, 3, 501);
    due("one", x.choose(500, 2), 1);
    row(x, 1, 1);
  }
  /** Two piers of two beds: ever is 35 by A 8 as day 2 ends, so that each lacks 25 piles. */
  private static RiverFeet twoPiers() {
    RiverFeet x = river();
    x.bed();
    x.pier(1, 10, 200, 5, 5);
    return x;
  }

  @Says("of equal ones the least COST")
  static void promise35_ofEqualOnesTheLeastCost() {
    RiverFeet x = twoPiers();
    x.offer(0, 25, 8);
    x.offer(1, 25, 7);
    x.offer(1, 99, 7);
    x.offer(0, 25, 7);
    due("money 7", x.choose(7, 2), 1);
    row(x, 2, 7);
    due("money 15", x.choose(15, 2), 2);
    row(x, 10, 14);
  }

  @Says("then the least bits")
  static void promise35_thenTheLeastBits() {
    RiverFeet x = twoPiers();
    x.offer(0, 12, 3);
    x.offer(0, 13, 4);
    x.offer(1, 25, 7);
    x.offer(0, 25, 7);
    due("3, 4 and 8 cost alike", x.choose(13, 2), 1);
    row(x, 3, 7);
    due("7 and 12 cost alike", x.choose(14, 2), 2);
    row(x, 7, 14);
  }

  @Says("(of those that do not QUARREL)")
  static void promise35_piersThatQuarrelAreNotCounted() {
    RiverFeet x = quarrel();
    x.bed();
    x.pier(1, 10, 200, 99, 99);
    x.offer(0, 99, 1);
    x.offer(1, 99, 1);
    due("the third alone", x.choose(9999, 2), 1);
    row(x, 0, 0);
    x.as(9);
    due("all three", x.choose(9999, 2), 3);
    row(x, 3, 2);
  }

  @Says("how many PIERS; the ROW: bits, COST")
  static void promise35_withoutPiersOrOffersNothingIsChosen() {
    RiverFeet x = new RiverFeet();
    due("no piers", x.choose(9999, 0), 0);
    row(x, 0, 0);
    RiverFeet y = twoPiers();
    due("no offers, no flow yet", y.choose(9999, 399), 0);
    row(y, 0, 0);
    y.pier(0, 10, 200, 35, 0);
    due("no offers, one that surely stands", y.choose(9999, 399), 1);
    row(y, 0, 0);
  }

  // ---- promise 36

  @Says("NONE for another what")
  static void promise36_whatIs0To10() {
    due("count(0)", busy().count(0), 2);
    due("count(10)", busy().count(10), 0);
    for (int what : outside(0, 10)) refused("count(" + what + ")", y -> y.count(what));
  }

  @Says("What 0: BEDS, 1: PIERS, 2: TREES told, 3: LOOKS, 4: LOOKS KNOWN on AS, 5: AS, 6: STEPS, 7: BRIDGES, 8: PILES OFFERED, 9: numbers of the ROW, 10: PIERS that QUARREL")
  static void promise36_eachHasItsOwnNumber() {
    RiverFeet x = busy();
    int[] want = {2, 3, 1, 3, 2, 200, 2, 2, 2, 4, 0};
    for (int what = 0; what <= 10; what++) due("count(" + what + ")", x.count(what), want[what]);
    x.bed();
    x.pier(2, 10, 200, 5, 5);
    x.tree(0, 0, 1);
    x.look(0, 2, 9, 50, 2);
    x.as(7);
    x.prove(0, 0);
    x.bridge(1, 1);
    x.offer(0, 1, 1);
    int[] more = {3, 4, 2, 4, 3, 7, 3, 3, 3, 4, 0};
    for (int what = 0; what <= 10; what++) due("count(" + what + ") then", x.count(what), more[what]);
  }

  @Says("4: LOOKS KNOWN on AS")
  static void promise36_onlyLooksKnownOnAs() {
    RiverFeet x = river();
    x.look(0, 2, 5, 0, 2);
    x.look(0, 2, 5, 0, 10);
    x.back(0, 30);
    int[][] asAndKnown = {{0, 0}, {1, 0}, {2, 1}, {9, 1}, {10, 2}, {29, 2}, {30, 1}, {399, 1}};
    for (int[] a : asAndKnown) {
      x.as(a[0]);
      due("as " + a[0], x.count(4), a[1]);
    }
    due("all of them", x.count(3), 2);
  }

  @Says("10: PIERS that QUARREL")
  static void promise36_eachPierOfABedThatQuarrels() {
    RiverFeet x = quarrel();
    x.bed();
    x.pier(1, 10, 200, 5, 5);
    due("two of three", x.count(10), 2);
    x.pier(0, 10, 200, 5, 5);
    due("a third in their bed", x.count(10), 3);
    x.as(9);
    due("not yet", x.count(10), 0);
  }

  // ---- promise 37

  @Says("NoSuchElementException: none such")
  static void promise37_theNumberIsOneThatThereIs() {
    RiverFeet x = busy();
    due("count(9)", x.count(9), 4);
    due("row(0)", x.row(0), 3);
    due("row(3)", x.row(3), 14);
    for (int i : outside(0, 3)) noRow(x, i);
    due("the row stays", x.count(9), 4);
    due("row(3)", x.row(3), 14);
  }

  @Says("NoSuchElementException: none such")
  static void promise37_anEmptyRowHasNone() {
    RiverFeet x = quarrel();
    x.minds(0);
    for (int i : outside(0, -1)) noRow(x, i);
    for (int i : outside(1, 0)) noRow(x, i);
  }

  @Says("Number i of the ROW")
  static void promise37_theLongestRowHasSixtyFour() {
    RiverFeet x = river();
    x.minds(0);
    due("row(63)", x.row(63), 63);
    noRow(x, 64);
  }

  @Says("ROW: numbers told last by a call that says so")
  static void promise37_term4_eachCallThatSaysSoTellsTheRowAnew() {
    Call[] calls = {x -> x.minds(0), x -> x.blame(0), x -> x.ends(0, 3), x -> x.next(0, 0, 4, 0), x -> x.plan(0, 0, 1, 6, 1, 0),
        x -> x.run(0, 0, 4, 0), x -> x.best(0, 0, 4, 0), x -> x.choose(0, 0)};
    int[] many = {24, 1, 4, 1, 1, 3, 1, 2};
    for (int i = 0; i < calls.length; i++) {
      for (int j = 0; j < calls.length; j++) {
        RiverFeet x = busy();
        x.as(2);
        calls[i].on(x);
        due("call " + i, x.count(9), many[i]);
        calls[j].on(x);
        due("call " + j + " behind call " + i, x.count(9), many[j]);
      }
    }
  }

  @Says("ROW: numbers told last by a call that says so")
  static void promise37_term4_otherCallsLeaveTheRow() {
    Call[] calls = {x -> x.flows(5, 2, 1, 5, 0), x -> x.flow(0), x -> x.bed(), x -> x.pier(0, 1, 1, 0, 0), x -> x.tree(0, 399, 1),
        x -> x.hole(0, 0, 0, 0), x -> x.when(0, 63, 0), x -> x.kept(0, 0), x -> x.shared(0), x -> x.look(0, 2, 9, 50, 2),
        x -> x.back(0, 5) ? 1 : 0, x -> x.as(7), x -> x.bars(0), x -> x.weighs(0), x -> x.state(0, 0), x -> x.share(0, 0, 0),
        x -> x.worst(0, 0, 0), x -> x.settles(0, 0, 0, 0, 1, 1, 0), x -> x.prove(0, 0), x -> x.check(0), x -> x.lay(0),
        x -> x.proof(0, 0), x -> x.bridge(1, 1), x -> x.truth(0, 5), x -> x.shut(0, 0, 0), x -> x.offer(0, 1, 1),
        x -> x.count(3), x -> x.row(0)};
    for (int i = 0; i < calls.length; i++) {
      RiverFeet x = busy();
      due("call " + i + " is not refused", calls[i].on(x) == NONE, false);
      row(x, 3, 14, 5, 14);
    }
  }
}
