/** Promise 9: what happens in a minute, step by step. */
public final class MinuteTest {
  private static final int LIGHT = HoldingStack.LIGHT, MEDIUM = HoldingStack.MEDIUM, HEAVY = HoldingStack.HEAVY;
  private static final int HOLDING = HoldingStack.HOLDING, LANDED = HoldingStack.LANDED;
  private static final int DIVERTED = HoldingStack.DIVERTED, NONE = HoldingStack.NONE;
  private static final Check check = new Check();

  public static void main(String[] args) {
    argument();
    burnOnEachLevel();
    placesGoRound();
    divertsBelowHalfOfTheReserve();
    halfOfEachReserve();
    divertsBeforeItLands();
    lowestLands();
    shortOnesLandFirst();
    shortOnesOnLevelZero();
    shortMustBeOverTheFix();
    wakes();
    waitGoesDownWhenClosed();
    landsInTheMinuteInWhichTheWaitEnds();
    ladderAfterLanding();
    ladderAfterDiverting();
    ladderNeedsAFreeLevel();
    check.finish();
  }

  private static void argument() {
    HoldingStack x = new HoldingStack();
    check.due("pass(0)", x.pass(0), HoldingStack.BAD_VALUE);
    check.due("pass(100)", x.pass(100), HoldingStack.BAD_VALUE);
    check.due("pass(-1)", x.pass(-1), HoldingStack.BAD_VALUE);
    check.tells("bad minutes", x, 0, 0);
    check.tells("bad minutes", x, 17, 0);
    check.due("pass(99)", x.pass(99), 0);
    check.recorded("pass(99)", x, 0);
    check.due("pass(1)", x.pass(1), 0);
    check.tells("time", x, 0, 100);
    check.tells("time", x, 17, 2);
    x.undo();
    check.tells("undo", x, 0, 99);
  }

  private static void burnOnEachLevel() {
    int[][] burns = {
      {4, 4, 4, 4, 4, 4, 4, 4, 4, 4, 3, 3, 3, 3, 3, 3},
      {9, 9, 9, 9, 9, 8, 8, 8, 8, 7, 7, 7, 7, 7, 6, 6},
      {18, 18, 18, 17, 17, 16, 16, 15, 15, 14, 14, 14, 13, 13, 12, 12},
    };
    for (int kind = 0; kind < 3; kind++) {
      HoldingStack x = new HoldingStack();
      x.begin(16);
      x.setLadder(false);
      x.setRunway(false);
      int burned = 0;
      for (int level = 0; level < 16; level++) {
        x.enter(kind, 5000, level);
        burned += burns[kind][level];
      }
      x.pass(1);
      for (int level = 0; level < 16; level++) {
        check.due("kind " + kind + " on level " + level, x.aircraft(level, 1), 5000 - burns[kind][level]);
      }
      check.tells("one minute", x, 12, 80000, burned, 0, 0);
      x.pass(9);
      check.tells("ten minutes", x, 12, 80000, 10 * burned, 0, 0);
    }
  }

  private static void placesGoRound() {
    HoldingStack x = new HoldingStack();
    x.setRunway(false);
    x.enter(LIGHT, 900, 0);
    int[] places = {2, 3, 0, 1, 2};
    for (int minute = 0; minute < places.length; minute++) {
      x.pass(1);
      check.due("place after minute " + (minute + 1), x.aircraft(0, 4), places[minute]);
    }
    x.setLap(2);
    x.pass(1);
    check.due("lap 2", x.aircraft(0, 4), 1);
    x.pass(1);
    check.due("lap 2", x.aircraft(0, 4), 0);
  }

  private static void divertsBelowHalfOfTheReserve() {
    HoldingStack x = new HoldingStack();
    x.setRunway(false);
    x.enter(LIGHT, 41, 0);
    x.enter(LIGHT, 44, 3);
    x.setLadder(false);
    x.pass(5);
    check.tellsAircraft("21 left", x, 0, LIGHT, 21, HOLDING, 0, 2, 0, 1, NONE);
    x.pass(1);
    check.tellsAircraft("17 left", x, 0, LIGHT, 17, DIVERTED, NONE, NONE, NONE, 1, 5);
    check.due("its level is free", x.level(0), NONE);
    check.tellsAircraft("just half", x, 1, LIGHT, 20, HOLDING, 3, 3, 0, 1, NONE);
    check.tells("one diverted", x, 3, 2, 1, 0, 1);
    check.tells("one diverted", x, 12, 85, 48, 0, 17);
    x.pass(1);
    check.tellsAircraft("less than half", x, 1, LIGHT, 16, DIVERTED, NONE, NONE, NONE, 1, 6);
    check.tells("two diverted", x, 3, 2, 0, 0, 2, 0);
    check.tells("two diverted", x, 12, 85, 52, 0, 33);
    x.pass(3);
    check.due("a diverted one burns no more", x.aircraft(1, 1), 16);
    check.due("and its time stays", x.aircraft(1, 7), 6);
    check.tells("burned", x, 13, 52);
  }

  private static void halfOfEachReserve() {
    // The first of each kind has half of its reserve after these minutes on level 0, the second one less.
    int[] minutes = {6, 6, 7};
    int[] rates = {4, 9, 18};
    int[] halves = {20, 50, 110};
    for (int kind = 0; kind < 3; kind++) {
      for (int less = 0; less < 2; less++) {
        HoldingStack x = new HoldingStack();
        x.setRunway(false);
        x.setLap(8);
        x.enter(kind, halves[kind] + minutes[kind] * rates[kind] - less, 0);
        x.pass(minutes[kind] - 1);
        check.due("not yet, kind " + kind, x.aircraft(0, 2), HOLDING);
        x.pass(1);
        check.due("half less " + less + ", kind " + kind, x.aircraft(0, 2), less == 0 ? HOLDING : DIVERTED);
      }
    }
  }

  private static void divertsBeforeItLands() {
    HoldingStack x = new HoldingStack();
    x.setLap(2);
    x.setRunway(false);
    x.enter(LIGHT, 44, 0);
    x.pass(6);
    x.setRunway(true);
    check.due("over the fix, 16 left", x.pass(1), 0);
    check.due("over the fix, 16 left", x.aircraft(0, 2), DIVERTED);

    HoldingStack y = new HoldingStack();
    y.setLap(2);
    y.setRunway(false);
    y.enter(LIGHT, 48, 0);
    y.pass(6);
    y.setRunway(true);
    check.due("over the fix, 20 left", y.pass(1), 1);
    check.tellsAircraft("over the fix, 20 left", y, 0, LIGHT, 20, LANDED, NONE, NONE, NONE, 1, 6);
    check.tells("fuel", y, 12, 48, 28, 20, 0);
  }

  private static void lowestLands() {
    HoldingStack x = new HoldingStack();
    x.enter(LIGHT, 900, 0);
    x.enter(LIGHT, 50, 2);
    check.due("two minutes", x.pass(2), 0);
    check.due("nothing before the fix", x.aircraft(0, 2), HOLDING);
    check.due("the third", x.pass(1), 1);
    check.tells("a short one lands", x, 5, 1);
    check.due("the short one", x.aircraft(1, 2), LANDED);
    check.due("the lowest holds", x.aircraft(0, 2), HOLDING);
    check.due("until", x.pass(3), 0);
    check.due("it is over the fix again", x.pass(1), 1);
    check.tellsAircraft("the lowest", x, 0, LIGHT, 872, LANDED, NONE, NONE, NONE, 0, 6);
    check.tells("fuel", x, 12, 950, 40, 910, 0);

    HoldingStack y = new HoldingStack();
    y.enter(LIGHT, 900, 1);
    y.pass(3);
    check.due("none lands from level 1 that is not short", y.aircraft(0, 2), HOLDING);
    check.due("it went down", y.level(0), 0);
  }

  private static void shortOnesLandFirst() {
    HoldingStack x = new HoldingStack();
    x.setLadder(false);
    x.enter(MEDIUM, 120, 7);
    x.enter(MEDIUM, 120, 5);
    x.enter(MEDIUM, 125, 3);
    x.enter(HEAVY, 900, 0);
    check.due("minute 3: 96, 96, 98 are over the fix", x.pass(3), 1);
    check.tellsAircraft("the lowest of those with 96", x, 1, MEDIUM, 96, LANDED, NONE, NONE, NONE, 1, 2);
    check.tells("wake of a medium one", x, 8, 3);
    check.due("minutes 4 to 6", x.pass(3), 0);
    check.due("minute 7: 64 and 62", x.pass(1), 1);
    check.tellsAircraft("the one with 62", x, 2, MEDIUM, 62, LANDED, NONE, NONE, NONE, 1, 6);
    check.due("minutes 8 to 11", x.pass(4), 1);
    check.tellsAircraft("too little in minute 9", x, 0, MEDIUM, 48, DIVERTED, NONE, NONE, NONE, 1, 8);
    check.tellsAircraft("the lowest", x, 3, HEAVY, 702, LANDED, NONE, NONE, NONE, 0, 10);
    check.tells("all", x, 3, 4, 0, 3, 1, 0, 4);
    check.tells("fuel", x, 12, 1265, 24 + 72 + 63 + 198, 96 + 62 + 702, 48);
  }

  private static void shortOnesOnLevelZero() {
    HoldingStack x = new HoldingStack();
    x.setLadder(false);
    x.enter(LIGHT, 46, 5);
    x.enter(LIGHT, 45, 0);
    x.enter(LIGHT, 44, 3);
    check.due("the one with the least fuel", x.pass(3), 1);
    check.due("is not that on level 0", x.aircraft(2, 2), LANDED);
    x.begin(10);
    x.enter(LIGHT, 45, 5);
    x.enter(LIGHT, 45, 0);
    check.due("of two with as much", x.pass(3), 1);
    check.due("the one on level 0", x.aircraft(1, 2), LANDED);
    x.begin(10);
    x.enter(LIGHT, 46, 5);
    x.enter(LIGHT, 45, 0);
    check.due("the one with the least fuel", x.pass(3), 1);
    check.due("is that on level 0", x.aircraft(1, 2), LANDED);
  }

  private static void shortMustBeOverTheFix() {
    HoldingStack x = new HoldingStack();
    x.setLadder(false);
    x.enter(LIGHT, 900, 0);
    x.pass(1);
    x.enter(LIGHT, 41, 5);
    check.due("the lowest is over the fix, the short one not", x.pass(2), 1);
    check.due("the lowest", x.aircraft(0, 2), LANDED);
    check.due("short", x.aircraft(1, 6), 1);
    check.due("a wait of 2", x.pass(1), 0);
    check.due("the short one missed the fix", x.aircraft(1, 4), 0);
    check.tells("wait", x, 8, 1);
  }

  private static void wakes() {
    int[] wakes = {2, 3, 4};
    for (int kind = 0; kind < 3; kind++) {
      HoldingStack x = new HoldingStack();
      x.setLap(2);
      x.enter(kind, 900, 0);
      check.due("kind " + kind + " lands", x.pass(1), 1);
      for (int wait = wakes[kind]; wait > 0; wait--) {
        check.tells("wake of kind " + kind, x, 8, wait);
        x.pass(1);
      }
      check.tells("wake of kind " + kind, x, 8, 0);
      x.pass(1);
      check.tells("not below 0", x, 8, 0);
    }
  }

  private static void waitGoesDownWhenClosed() {
    HoldingStack x = new HoldingStack();
    x.setLap(2);
    x.enter(HEAVY, 900, 0);
    x.pass(1);
    x.setRunway(false);
    x.enter(LIGHT, 900, 0);
    check.due("closed", x.pass(3), 0);
    check.tells("closed", x, 8, 1);
    check.due("closed", x.pass(2), 0);
    check.tells("closed", x, 8, 0);
    check.due("level 0", x.level(0), 1);
    x.setRunway(true);
    check.due("open, not over the fix", x.pass(1), 0);
    check.due("open, over the fix", x.pass(1), 1);
  }

  private static void landsInTheMinuteInWhichTheWaitEnds() {
    HoldingStack x = new HoldingStack();
    x.setLap(2);
    x.enter(HEAVY, 900, 0);
    x.enter(HEAVY, 900, 1);
    check.due("minute 1", x.pass(1), 1);
    check.due("minutes 2 to 4", x.pass(3), 0);
    check.tells("minute 4", x, 8, 1);
    check.due("minute 5", x.pass(1), 1);
    check.due("the second one", x.aircraft(1, 7), 4);
    check.tells("minute 5", x, 8, 4);
  }

  private static void ladderAfterLanding() {
    HoldingStack x = new HoldingStack();
    for (int level = 0; level < 4; level++) {
      x.enter(LIGHT, 900, level);
    }
    x.enter(LIGHT, 900, 9);
    x.enter(LIGHT, 900, 5);
    x.pass(2);
    check.tells("none over the fix", x, 7, 0);
    check.due("minute 3", x.pass(1), 1);
    check.tells("all went down one level", x, 7, 5);
    check.due("0 landed", x.aircraft(0, 2), LANDED);
    int[] levels = {NONE, 0, 1, 2, 8, 4};
    for (int aircraft = 0; aircraft < levels.length; aircraft++) {
      check.due("level of " + aircraft, x.aircraft(aircraft, 3), levels[aircraft]);
    }
    check.due("it stays over the fix", x.aircraft(4, 4), 0);
    check.due("level(9)", x.level(9), NONE);
    check.due("level(8)", x.level(8), 4);
    check.due("level(3)", x.level(3), NONE);
    check.due("level(0)", x.level(0), 1);
    x.pass(3);
    check.tells("a whole lap", x, 7, 5);
    x.pass(1);
    check.tells("1 landed, the other four went down", x, 7, 9);
  }

  private static void ladderAfterDiverting() {
    HoldingStack x = new HoldingStack();
    x.setLap(2);
    x.setRunway(false);
    x.enter(LIGHT, 44, 0);
    x.enter(LIGHT, 900, 1);
    x.pass(6);
    check.due("level 0 is taken", x.aircraft(1, 3), 1);
    x.pass(1);
    check.due("0 diverted in minute 7", x.aircraft(0, 7), 6);
    check.due("its level is free at once", x.aircraft(1, 3), 0);
    check.tells("one step", x, 7, 1);
  }

  private static void ladderNeedsAFreeLevel() {
    HoldingStack x = new HoldingStack();
    x.enter(LIGHT, 900, 2);
    x.pass(1);
    x.enter(LIGHT, 900, 1);
    x.pass(2);
    check.due("over the fix above another", x.aircraft(0, 3), 2);
    check.due("and over the fix", x.aircraft(0, 4), 0);
    x.pass(1);
    check.due("the other went down", x.aircraft(1, 3), 0);
    check.due("but it is past the fix", x.aircraft(0, 3), 2);
    x.pass(3);
    check.due("until the next lap", x.aircraft(0, 3), 1);
    check.tells("steps", x, 7, 2);
  }
}
