/** Promise 9: pass, and what happens in a minute. Each test bears the words of the document that it tests. */
public final class MinuteTest {
  private static final int LIGHT = HoldingStack.LIGHT, MEDIUM = HoldingStack.MEDIUM, HEAVY = HoldingStack.HEAVY;
  private static final int HOLDING = HoldingStack.HOLDING, LANDED = HoldingStack.LANDED;
  private static final int DIVERTED = HoldingStack.DIVERTED, NONE = HoldingStack.NONE;
  private static final int[] RESERVES = {40, 100, 220}, WAKES = {2, 3, 4};
  private static final Check check = new Check();

  public static void main(String[] args) {
    range();
    countsThoseThatLand();
    minutesOneByOne();
    passIsRecorded();

    burnOnEachLevel();
    onlyHoldingOnesBurn();
    placesGoRound();

    divertsBelowHalfOfTheReserve();
    divertsSeveralInAMinute();
    divertedLeavesItsLevel();
    divertsBeforeItLands();

    waitGoesDownToZero();
    waitGoesDownWhenClosed();
    landsInTheMinuteInWhichTheWaitEnds();
    closedNoneLands();
    oneLandsInAMinute();
    shortUpToTheReserveLands();
    shortOnesMustBeOverTheFix();
    leastFuelLands();
    leastFuelOfDifferentKindsLands();
    lowestLevelOfSeveralLands();
    shortOnLevelZeroHasNoPrecedence();
    otherwiseLevelZeroLands();
    levelZeroMustBeOverTheFix();
    noneLandsFromAboveUnlessShort();
    landedIsLandedAndItsLevelFree();
    wakeOfEachKind();

    ladderFromLevelOneUp();
    ladderOfSixteenLevels();
    ladderFillsAGap();
    ladderOneLevelInAMinute();
    ladderOnlyOverTheFix();
    ladderNeedsAFreeLevelBelow();
    ladderAutomaticOrCalled();
    ladderAfterDiverting();
    ladderForShortOnes();
    stepEndsTheCall();
    callOutlastsAMinuteWithoutAStep();

    timeGoesOn();
    check.finish();
  }

  // ---- the call

  private static void range() {
    check.sentence(9, "1 to 99");
    HoldingStack x = new HoldingStack();
    x.enter(LIGHT, 900, 5);
    for (int bad : new int[] {0, 100, -1, -99, Integer.MAX_VALUE, Integer.MIN_VALUE}) {
      check.changesNothing(x, "pass(" + bad + ")", () -> x.pass(bad), HoldingStack.BAD_VALUE);
    }
    check.due("pass(1)", x.pass(1), 0);
    check.tells("pass(1)", x, 0, 1);
    check.due("pass(99)", x.pass(99), 1);
    check.tells("pass(99)", x, 0, 100);
  }

  private static void countsThoseThatLand() {
    check.sentence(9, "Returns the number of aircraft that landed in them");
    HoldingStack x = new HoldingStack();
    x.setLap(2);
    for (int level = 0; level < 4; level++) {
      x.enter(LIGHT, 900, level);
    }
    // One lands in each of the minutes 1, 3, 5 and 7, for the wake is 2.
    check.due("minute 1", x.pass(1), 1);
    check.due("minute 2", x.pass(1), 0);
    check.due("minutes 3 to 5", x.pass(3), 2);
    check.due("minutes 6 to 104", x.pass(99), 1);
    check.due("none is left", x.pass(99), 0);
    x.begin(10);
    x.setRunway(false);
    x.enter(LIGHT, 41, 9);
    check.due("a diverted one does not count", x.pass(6), 0);
    check.due("it is diverted", x.aircraft(0, 2), DIVERTED);
  }

  private static void minutesOneByOne() {
    check.sentence(9, "Lets minutes pass.");
    HoldingStack x = busy();
    HoldingStack y = busy();
    for (int minute = 0; minute < 40; minute++) {
      x.pass(1);
    }
    y.pass(40);
    y.setLimit(y.tell(11));
    x.setLimit(x.tell(11));
    check.due("checksum() after 40 minutes at once", y.checksum(), x.checksum());
  }

  /** Many aircraft, and a full history, so that checksums can be compared after several calls. */
  private static HoldingStack busy() {
    HoldingStack x = new HoldingStack();
    x.setLap(3);
    for (int level = 0; level < 10; level++) {
      x.enter(level % 3, RESERVES[level % 3] + 9 * level + 30, level);
      if (level == 4) {
        x.pass(1);
      }
    }
    x.call(7);
    return x;
  }

  private static void passIsRecorded() {
    check.sentence(9, "Recorded.");
    HoldingStack x = new HoldingStack();
    check.recorded(x, "pass(1)", () -> x.pass(1), 0);
    x.enter(LIGHT, 50, 3);
    x.enter(HEAVY, 900, 0);
    check.recorded(x, "pass(99) is one state", () -> x.pass(99), 2);
    check.tells("undo() of pass(99)", x, 0, 0);
    check.due("its level is back", x.level(3), 0);
  }

  // ---- 1: fuel and places

  private static void burnOnEachLevel() {
    check.sentence(9, "burns its rate less q, where q is rate * k / 40, rounded down");
    int[][] burns = {
      {4, 4, 4, 4, 4, 4, 4, 4, 4, 4, 3, 3, 3, 3, 3, 3},
      {9, 9, 9, 9, 9, 8, 8, 8, 8, 7, 7, 7, 7, 7, 6, 6},
      {18, 18, 18, 17, 17, 16, 16, 15, 15, 14, 14, 14, 13, 13, 12, 12},
    };
    for (int kind = 0; kind < 3; kind++) {
      HoldingStack x = new HoldingStack();
      x.begin(16);
      x.setLadder(false);
      x.setRunway(false);
      int burned = 0;
      for (int level = 0; level < 16; level++) {
        x.enter(kind, 5000, level);
        burned += burns[kind][level];
      }
      x.pass(1);
      for (int level = 0; level < 16; level++) {
        check.due("kind " + kind + " on level " + level, x.aircraft(level, 1), 5000 - burns[kind][level]);
      }
      check.tells("one minute", x, 12, 80000, burned, 0, 0);
      x.pass(9);
      check.tells("ten minutes", x, 12, 80000, 10 * burned, 0, 0);
    }
  }

  // "or all that it has, if that is less" can't come about: one that is HOLDING has half of its reserve at least, which
  // is more than its rate.
  private static void onlyHoldingOnesBurn() {
    check.sentence(9, "Each aircraft that is HOLDING burns");
    HoldingStack x = new HoldingStack();
    x.setLap(2);
    x.enter(LIGHT, 900, 0);
    x.pass(1);
    x.setRunway(false);
    x.enter(LIGHT, 44, 0);
    x.pass(7);
    check.tells("one landed, one diverted", x, 3, 2, 0, 1, 1);
    check.tells("burned", x, 13, 4 + 28);
    x.pass(50);
    check.due("the landed one", x.aircraft(0, 1), 896);
    check.due("the diverted one", x.aircraft(1, 1), 16);
    check.tells("burned", x, 13, 32, 896, 16);
    check.tells("still one and one", x, 3, 2, 0, 1, 1);
    check.due("the time of the landed one", x.aircraft(0, 7), 0);
    check.due("the time of the diverted one", x.aircraft(1, 7), 7);
  }

  private static void placesGoRound() {
    check.sentence(9, "its place increases by 1, from L - 1 to 0");
    for (int lap = 2; lap <= 8; lap++) {
      HoldingStack x = new HoldingStack();
      x.setRunway(false);
      x.setLap(lap);
      x.enter(LIGHT, 900, 0);
      for (int minute = 1; minute <= 2 * lap; minute++) {
        x.pass(1);
        check.due("lap " + lap + ", minute " + minute, x.aircraft(0, 4), (1 + minute) % lap);
      }
    }
  }

  // ---- 2: diverting

  private static void divertsBelowHalfOfTheReserve() {
    check.sentence(9, "Each aircraft that is HOLDING and has less fuel than half of its reserve is DIVERTED");
    // The first of each kind has half of its reserve after these minutes on level 0, the second one less.
    int[] minutes = {6, 6, 7};
    int[] rates = {4, 9, 18};
    for (int kind = 0; kind < 3; kind++) {
      int half = RESERVES[kind] / 2;
      for (int less = 0; less < 2; less++) {
        HoldingStack x = new HoldingStack();
        x.setRunway(false);
        x.setLap(8);
        x.enter(kind, half + minutes[kind] * rates[kind] - less, 0);
        x.pass(minutes[kind] - 1);
        check.due("a minute before, kind " + kind, x.aircraft(0, 2), HOLDING);
        x.pass(1);
        check.due("fuel, kind " + kind, x.aircraft(0, 1), half - less);
        check.due("half less " + less + ", kind " + kind, x.aircraft(0, 2), less == 0 ? HOLDING : DIVERTED);
        x.pass(1);
        check.due("a minute later, kind " + kind, x.aircraft(0, 2), DIVERTED);
      }
    }
  }

  private static void divertsSeveralInAMinute() {
    check.sentence(9, "Each aircraft that is HOLDING and has less fuel than half of its reserve is DIVERTED");
    HoldingStack x = new HoldingStack();
    x.setRunway(false);
    x.setLadder(false);
    x.enter(LIGHT, 41, 0);
    x.enter(LIGHT, 42, 9);
    x.enter(LIGHT, 43, 4);
    x.enter(LIGHT, 44, 5);
    x.pass(5);
    check.tells("21, 22, 23, 24 left", x, 3, 4, 4, 0, 0);
    x.pass(1);
    check.tells("17, 18, 19, 20 left", x, 3, 4, 1, 0, 3);
    check.tells("fuel", x, 12, 170, 96, 0, 17 + 18 + 19);
    check.due("just half", x.aircraft(3, 2), HOLDING);
  }

  private static void divertedLeavesItsLevel() {
    check.sentence(9, "is DIVERTED; its level is free");
    HoldingStack x = new HoldingStack();
    x.setRunway(false);
    x.setLadder(false);
    x.enter(LIGHT, 41, 5);
    x.pass(5);
    check.tellsAircraft("21 left", x, 0, LIGHT, 21, HOLDING, 5, 2, 0, 1, NONE);
    check.due("level(5)", x.level(5), 0);
    x.pass(1);
    check.tellsAircraft("17 left", x, 0, LIGHT, 17, DIVERTED, NONE, NONE, NONE, 1, 5);
    check.due("level(5)", x.level(5), NONE);
    check.due("enter there", x.enter(LIGHT, 900, 5), 1);
  }

  private static void divertsBeforeItLands() {
    check.sentence(9, "2. Each aircraft that is HOLDING and has less fuel than half of its reserve is DIVERTED");
    HoldingStack x = new HoldingStack();
    x.setLap(2);
    x.setRunway(false);
    x.enter(LIGHT, 44, 0);
    x.pass(6);
    x.setRunway(true);
    check.due("over the fix, 16 left", x.pass(1), 0);
    check.due("over the fix, 16 left", x.aircraft(0, 2), DIVERTED);

    HoldingStack y = new HoldingStack();
    y.setLap(2);
    y.setRunway(false);
    y.enter(LIGHT, 48, 0);
    y.pass(6);
    y.setRunway(true);
    check.due("over the fix, 20 left", y.pass(1), 1);
    check.tellsAircraft("over the fix, 20 left", y, 0, LIGHT, 20, LANDED, NONE, NONE, NONE, 1, 6);
    check.tells("fuel", y, 12, 48, 28, 20, 0);
  }

  // ---- 3: landing

  private static void waitGoesDownToZero() {
    check.sentence(9, "The wait decreases by 1, if it is above 0.");
    HoldingStack x = new HoldingStack();
    x.pass(1);
    check.tells("a wait of 0", x, 8, 0);
    x.setLap(2);
    x.enter(HEAVY, 900, 0);
    x.pass(1);
    for (int wait = 4; wait > 0; wait--) {
      check.tells("landed", x, 8, wait);
      x.pass(1);
    }
    check.tells("the wait has ended", x, 8, 0);
    x.pass(99);
    check.tells("99 minutes later", x, 8, 0);
  }

  private static void waitGoesDownWhenClosed() {
    check.sentence(9, "The wait decreases by 1, if it is above 0. If the runway is open");
    HoldingStack x = new HoldingStack();
    x.setLap(2);
    x.enter(HEAVY, 900, 0);
    x.pass(1);
    x.setRunway(false);
    x.pass(3);
    check.tells("three minutes later", x, 8, 1);
    x.pass(1);
    check.tells("four minutes later", x, 8, 0);
    x.pass(1);
    check.tells("five minutes later", x, 8, 0);
  }

  private static void landsInTheMinuteInWhichTheWaitEnds() {
    check.sentence(9, "If the runway is open and the wait is 0 then, one aircraft lands");
    HoldingStack x = new HoldingStack();
    x.setLap(2);
    x.enter(HEAVY, 900, 0);
    x.enter(HEAVY, 900, 1);
    check.due("minute 1", x.pass(1), 1);
    check.due("minutes 2 and 3", x.pass(2), 0);
    check.due("1 is over the fix in minute 3", x.aircraft(1, 4), 0);
    check.due("minute 4", x.pass(1), 0);
    check.tells("minute 4", x, 8, 1);
    check.due("minute 5", x.pass(1), 1);
    check.due("the second one", x.aircraft(1, 7), 4);
    check.tells("minute 5", x, 8, 4);
  }

  private static void closedNoneLands() {
    check.sentence(9, "If the runway is open and the wait is 0 then, one aircraft lands");
    HoldingStack x = new HoldingStack();
    x.setLap(2);
    x.setRunway(false);
    x.enter(LIGHT, 900, 0);
    x.enter(LIGHT, 45, 5);
    check.due("closed, one over the fix on level 0, one short", x.pass(3), 0);
    check.tells("closed", x, 3, 2, 2, 0, 0);
    x.setRunway(true);
    check.due("open, none over the fix", x.pass(1), 0);
    check.due("open, both over the fix", x.pass(1), 1);
  }

  private static void oneLandsInAMinute() {
    check.sentence(9, "one aircraft lands");
    HoldingStack x = new HoldingStack();
    x.setLap(2);
    x.setLadder(false);
    x.enter(LIGHT, 41, 3);
    x.enter(LIGHT, 42, 5);
    x.enter(LIGHT, 900, 0);
    check.due("all three over the fix, two of them short", x.pass(1), 1);
    check.tells("one landed", x, 3, 3, 2, 1);
    check.due("the one with 37 left", x.aircraft(0, 2), LANDED);
  }

  private static void shortUpToTheReserveLands() {
    check.sentence(9, "It is short if its fuel is not more than its reserve.");
    int[] burns = {4, 8, 16};
    for (int kind = 0; kind < 3; kind++) {
      for (int more = 0; more < 2; more++) {
        HoldingStack x = new HoldingStack();
        x.setLap(2);
        x.setLadder(false);
        // On level 5, over the fix after a minute, with its reserve or one more.
        x.enter(kind, RESERVES[kind] + burns[kind] + more, 5);
        check.due("reserve and " + more + ", kind " + kind, x.pass(1), 1 - more);
        check.due("fuel, kind " + kind, x.aircraft(0, 1), RESERVES[kind] + more);
      }
    }
  }

  private static void shortOnesMustBeOverTheFix() {
    check.sentence(9, "of those that are short and over the fix");
    HoldingStack x = new HoldingStack();
    x.setLadder(false);
    x.enter(LIGHT, 900, 0);
    x.pass(1);
    x.enter(LIGHT, 41, 5);
    check.due("the lowest is over the fix, the short one not", x.pass(2), 1);
    check.due("the lowest", x.aircraft(0, 2), LANDED);
    check.due("short", x.aircraft(1, 6), 1);
    check.due("a wait of 2", x.pass(1), 0);
    check.due("the short one was over the fix then", x.aircraft(1, 4), 0);
    check.tells("wait", x, 8, 1);
  }

  private static void leastFuelLands() {
    check.sentence(9, "the one with the least fuel");
    for (int first = 0; first < 2; first++) {
      HoldingStack x = new HoldingStack();
      x.setLap(2);
      x.setLadder(false);
      x.enter(LIGHT, 44 - first, 3);
      x.enter(LIGHT, 43 + first, 7);
      check.due("39 and 40 left", x.pass(1), 1);
      check.due("39 left", x.aircraft(1 - first, 2), LANDED);
      check.due("40 left", x.aircraft(first, 2), HOLDING);
    }
  }

  private static void leastFuelOfDifferentKindsLands() {
    check.sentence(9, "the one with the least fuel");
    HoldingStack x = new HoldingStack();
    x.setLap(2);
    x.setLadder(false);
    // After a minute the heavy one has 220, the light one 40, the medium one 97: all are short.
    x.enter(HEAVY, 238, 1);
    x.enter(LIGHT, 44, 9);
    x.enter(MEDIUM, 105, 5);
    check.due("minute 1", x.pass(1), 1);
    check.due("the light one", x.aircraft(1, 2), LANDED);
    check.due("minute 3", x.pass(2), 1);
    check.due("the medium one", x.aircraft(2, 2), LANDED);
    check.due("minutes 4 to 7", x.pass(4), 1);
    check.due("the heavy one", x.aircraft(0, 7), 6);
  }

  private static void lowestLevelOfSeveralLands() {
    check.sentence(9, "of several the one on the lowest level");
    int[][] orders = {{3, 5, 8}, {3, 8, 5}, {5, 3, 8}, {8, 5, 3}, {5, 8, 3}, {8, 3, 5}};
    for (int[] levels : orders) {
      HoldingStack x = new HoldingStack();
      x.setLap(2);
      x.setLadder(false);
      for (int level : levels) {
        x.enter(LIGHT, 44, level);
      }
      check.due("three with 40 left", x.pass(1), 1);
      check.due("level(3)", x.level(3), NONE);
      check.due("level(5) is free", x.level(5) == NONE ? 1 : 0, 0);
      check.due("level(8) is free", x.level(8) == NONE ? 1 : 0, 0);
    }
  }

  private static void shortOnLevelZeroHasNoPrecedence() {
    check.sentence(9, "of those that are short and over the fix the one with the least fuel, of several the one on the lowest level");
    HoldingStack x = new HoldingStack();
    x.setLap(2);
    x.setLadder(false);
    x.enter(LIGHT, 43, 0);
    x.enter(LIGHT, 42, 9);
    check.due("39 left on level 0, 38 on level 9", x.pass(1), 1);
    check.due("the one with 38", x.aircraft(1, 2), LANDED);
    x.begin(10);
    x.enter(LIGHT, 42, 9);
    x.enter(LIGHT, 42, 0);
    check.due("38 left on level 9, 38 on level 0", x.pass(1), 1);
    check.due("the one on level 0", x.aircraft(1, 2), LANDED);
  }

  private static void otherwiseLevelZeroLands() {
    check.sentence(9, "if there is none, the one on level 0, if it is over the fix");
    HoldingStack x = new HoldingStack();
    x.enter(LIGHT, 900, 0);
    x.enter(LIGHT, 50, 2);
    check.due("two minutes", x.pass(2), 0);
    // In minute 3 aircraft 1 has 38 left and lands first; the wake keeps 0 until it is over the fix again.
    check.due("minute 3", x.pass(1), 1);
    check.due("the short one", x.aircraft(1, 2), LANDED);
    check.due("the lowest holds", x.aircraft(0, 2), HOLDING);
    check.due("minutes 4 to 6", x.pass(3), 0);
    check.due("minute 7", x.pass(1), 1);
    check.tellsAircraft("the lowest", x, 0, LIGHT, 872, LANDED, NONE, NONE, NONE, 0, 6);
  }

  private static void levelZeroMustBeOverTheFix() {
    check.sentence(9, "(If there is none, either, none lands.)");
    HoldingStack x = new HoldingStack();
    check.due("none at all", x.pass(5), 0);
    check.tells("none at all", x, 3, 0, 0, 0, 0);
    x.setLap(8);
    x.enter(LIGHT, 900, 0);
    x.enter(LIGHT, 60, 9);
    // The short one has 36 left after six minutes.
    check.due("none over the fix", x.pass(6), 0);
    check.tells("none over the fix", x, 3, 2, 2, 0, 0);
    check.tells("no wait", x, 8, 0);
  }

  private static void noneLandsFromAboveUnlessShort() {
    check.sentence(9, "if there is none, the one on level 0, if it is over the fix");
    HoldingStack x = new HoldingStack();
    x.setLadder(false);
    x.enter(LIGHT, 900, 1);
    x.enter(LIGHT, 900, 9);
    check.due("three minutes", x.pass(3), 0);
    check.due("over the fix", x.aircraft(0, 4), 0);
    check.due("level(1)", x.level(1), 0);
    x.setLadder(true);
    check.due("four more: it goes down", x.pass(4), 0);
    check.due("level(0)", x.level(0), 0);
    check.due("four more: it lands", x.pass(4), 1);
  }

  private static void landedIsLandedAndItsLevelFree() {
    check.sentence(9, "It is LANDED, its level is free");
    HoldingStack x = new HoldingStack();
    x.setLap(2);
    x.setLadder(false);
    x.enter(LIGHT, 44, 9);
    x.enter(LIGHT, 900, 0);
    check.due("pass(1)", x.pass(1), 1);
    check.tellsAircraft("from level 9", x, 0, LIGHT, 40, LANDED, NONE, NONE, NONE, 1, 0);
    check.due("level(9)", x.level(9), NONE);
    check.due("pass(2)", x.pass(2), 1);
    check.tellsAircraft("from level 0", x, 1, LIGHT, 888, LANDED, NONE, NONE, NONE, 0, 2);
    check.due("level(0)", x.level(0), NONE);
    check.tells("fuel", x, 12, 944, 16, 928, 0);
  }

  private static void wakeOfEachKind() {
    check.sentence(9, "the wait is the wake of its kind");
    for (int kind = 0; kind < 3; kind++) {
      HoldingStack x = new HoldingStack();
      x.setLap(2);
      x.enter(kind, 900, 0);
      x.pass(1);
      check.tells("kind " + kind, x, 8, WAKES[kind]);
      x.begin(10);
      x.enter(kind, RESERVES[kind] + 1, 9);
      x.pass(1);
      check.tells("short, kind " + kind, x, 8, WAKES[kind]);
    }
  }

  // ---- 4: the ladder

  private static void ladderFromLevelOneUp() {
    check.sentence(9, "For each level from 1 up, one after the other, as things are then");
    HoldingStack x = new HoldingStack();
    for (int level = 0; level < 4; level++) {
      x.enter(LIGHT, 900, level);
    }
    x.enter(LIGHT, 900, 9);
    x.enter(LIGHT, 900, 5);
    x.pass(2);
    check.tells("none over the fix", x, 7, 0);
    check.due("minute 3", x.pass(1), 1);
    check.tells("all but the landed one", x, 7, 5);
    int[] levels = {NONE, 0, 1, 2, 8, 4};
    for (int aircraft = 0; aircraft < levels.length; aircraft++) {
      check.due("level of " + aircraft, x.aircraft(aircraft, 3), levels[aircraft]);
    }
    int[] holders = {1, 2, 3, NONE, 5, NONE, NONE, NONE, 4, NONE};
    for (int level = 0; level < holders.length; level++) {
      check.due("level(" + level + ")", x.level(level), holders[level]);
    }
  }

  private static void ladderOfSixteenLevels() {
    check.sentence(9, "For each level from 1 up, one after the other, as things are then");
    HoldingStack x = new HoldingStack();
    x.begin(16);
    x.setLap(2);
    x.setRunway(false);
    for (int level = 0; level < 16; level++) {
      x.enter(LIGHT, 900, level);
    }
    x.pass(1);
    check.tells("closed, all over the fix", x, 7, 0);
    x.setRunway(true);
    x.pass(2);
    check.tells("fifteen go down behind the one that lands", x, 7, 15);
    check.due("level(0)", x.level(0), 1);
    check.due("level(14)", x.level(14), 15);
    check.due("level(15)", x.level(15), NONE);
  }

  private static void ladderFillsAGap() {
    check.sentence(9, "and the level below is free");
    HoldingStack x = new HoldingStack();
    x.setLap(2);
    x.setRunway(false);
    int[] levels = {0, 1, 3, 4, 9};
    for (int level : levels) {
      x.enter(LIGHT, 900, level);
    }
    x.pass(1);
    int[] then = {0, 1, 2, 3, 8};
    for (int aircraft = 0; aircraft < then.length; aircraft++) {
      check.due("level of " + aircraft, x.aircraft(aircraft, 3), then[aircraft]);
    }
    check.tells("steps", x, 7, 3);
  }

  private static void ladderOneLevelInAMinute() {
    check.sentence(9, "it goes to the level below (it stays over the fix)");
    HoldingStack x = new HoldingStack();
    x.begin(16);
    x.enter(LIGHT, 900, 15);
    x.pass(3);
    check.due("one level", x.aircraft(0, 3), 14);
    check.due("over the fix", x.aircraft(0, 4), 0);
    check.due("level(15)", x.level(15), NONE);
    check.due("level(14)", x.level(14), 0);
    x.pass(3);
    check.due("three minutes later", x.aircraft(0, 3), 14);
    x.pass(1);
    check.due("a lap later", x.aircraft(0, 3), 13);
    x.pass(52);
    check.due("thirteen laps later", x.aircraft(0, 3), 0);
    check.tells("steps", x, 7, 15);
    check.due("it lands a lap later", x.pass(4), 1);
  }

  private static void ladderOnlyOverTheFix() {
    check.sentence(9, "if an aircraft on it is over the fix");
    HoldingStack x = new HoldingStack();
    x.setLap(8);
    x.enter(LIGHT, 900, 5);
    x.pass(6);
    check.due("place 7", x.aircraft(0, 3), 5);
    x.pass(1);
    check.due("place 0", x.aircraft(0, 3), 4);
    x.pass(1);
    check.due("place 1", x.aircraft(0, 3), 4);
  }

  private static void ladderNeedsAFreeLevelBelow() {
    check.sentence(9, "and the level below is free");
    HoldingStack x = new HoldingStack();
    x.enter(LIGHT, 900, 2);
    x.pass(1);
    x.enter(LIGHT, 900, 1);
    x.pass(2);
    check.due("over the fix above another", x.aircraft(0, 3), 2);
    check.due("and over the fix", x.aircraft(0, 4), 0);
    x.pass(1);
    check.due("the other went down", x.aircraft(1, 3), 0);
    check.due("but it is past the fix", x.aircraft(0, 3), 2);
    x.pass(3);
    check.due("a lap later", x.aircraft(0, 3), 1);
    check.tells("steps", x, 7, 2);
  }

  private static void ladderAutomaticOrCalled() {
    check.sentence(9, "the ladder is automatic or the aircraft is called");
    for (int automatic = 0; automatic < 2; automatic++) {
      for (int called = 0; called < 2; called++) {
        HoldingStack x = new HoldingStack();
        x.setLadder(automatic == 1);
        x.enter(LIGHT, 900, 9);
        x.enter(LIGHT, 900, 5);
        if (called == 1) {
          x.call(1);
        }
        x.pass(3);
        check.due("automatic " + automatic + ", not called", x.aircraft(0, 3), 9 - automatic);
        check.due("automatic " + automatic + ", called " + called, x.aircraft(1, 3), 5 - Math.max(automatic, called));
        check.tells("automatic " + automatic + ", called " + called, x, 7, automatic + Math.max(automatic, called));
      }
    }
  }

  private static void ladderAfterDiverting() {
    check.sentence(9, "is DIVERTED; its level is free");
    HoldingStack x = new HoldingStack();
    x.setLap(2);
    x.setRunway(false);
    x.enter(LIGHT, 44, 0);
    x.enter(LIGHT, 900, 1);
    x.pass(6);
    check.due("level 0 is taken", x.aircraft(1, 3), 1);
    x.pass(1);
    check.due("0 diverted in minute 7", x.aircraft(0, 7), 6);
    check.due("its level is free in this minute", x.aircraft(1, 3), 0);
    check.tells("one step", x, 7, 1);
  }

  private static void ladderForShortOnes() {
    check.sentence(9, "if an aircraft on it is over the fix, and the level below is free");
    HoldingStack x = new HoldingStack();
    x.setRunway(false);
    x.enter(LIGHT, 45, 9);
    x.pass(3);
    check.due("short", x.aircraft(0, 6), 1);
    check.due("it goes down, too", x.aircraft(0, 3), 8);
  }

  private static void stepEndsTheCall() {
    check.sentence(9, "is not called any more, and this counts as a step");
    HoldingStack x = new HoldingStack();
    x.setLadder(false);
    x.enter(LIGHT, 900, 5);
    x.call(0);
    x.pass(3);
    check.tellsAircraft("down", x, 0, LIGHT, 888, HOLDING, 4, 0, 0, 0, NONE);
    check.tells("one step", x, 7, 1);
    x.pass(4);
    check.due("a lap later", x.aircraft(0, 3), 4);
    check.tells("still one step", x, 7, 1);
    x.call(0);
    x.setLadder(true);
    x.pass(4);
    check.tellsAircraft("down an automatic ladder", x, 0, LIGHT, 856, HOLDING, 3, 0, 0, 0, NONE);
    check.tells("two steps", x, 7, 2);
  }

  private static void callOutlastsAMinuteWithoutAStep() {
    check.sentence(9, "is not called any more, and this counts as a step");
    HoldingStack x = new HoldingStack();
    x.setLadder(false);
    x.enter(LIGHT, 900, 8);
    x.enter(LIGHT, 900, 7);
    x.call(0);
    x.pass(3);
    check.tellsAircraft("over the fix, level below taken", x, 0, LIGHT, 888, HOLDING, 8, 0, 1, 0, NONE);
    x.call(1);
    x.pass(4);
    check.due("both go down: 1", x.aircraft(1, 3), 6);
    check.due("both go down: 0", x.aircraft(0, 3), 7);
    check.due("neither is called: 0", x.aircraft(0, 5), 0);
    check.due("neither is called: 1", x.aircraft(1, 5), 0);
  }

  // ---- 5: the time

  private static void timeGoesOn() {
    check.sentence(9, "The time increases by 1.");
    HoldingStack x = new HoldingStack();
    x.pass(1);
    check.tells("one", x, 0, 1);
    x.pass(99);
    check.tells("a hundred", x, 0, 100);
    for (int call = 0; call < 400; call++) {
      x.pass(99);
    }
    check.tells("many", x, 0, 39700);
  }
}
