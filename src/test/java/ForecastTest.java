/** Promises 14 to 18: minutesLeft, landsWith, endurance, bestLevel and lands. */
public final class ForecastTest {
  private static final int LIGHT = HoldingStack.LIGHT, MEDIUM = HoldingStack.MEDIUM, HEAVY = HoldingStack.HEAVY;
  private static final int BAD_INDEX = HoldingStack.BAD_INDEX, BAD_VALUE = HoldingStack.BAD_VALUE;
  private static final int NONE = HoldingStack.NONE, NOT_POSSIBLE = HoldingStack.NOT_POSSIBLE;
  private static final Check check = new Check();

  public static void main(String[] args) {
    badAircraft();
    oneAircraft();
    severalAircraft();
    diverted();
    closed();
    sixHundredMinutes();
    endurance();
    bestLevelErrors();
    bestLevelPlain();
    bestLevelRefused();
    bestLevelLowestOfSeveral();
    bestLevelAboveTheLowest();
    bestLevelWithinSixHundredMinutes();
    landsErrors();
    landedAircraftDoNotCount();
    questionsChangeNothing();
    check.finish();
  }

  private static void badAircraft() {
    HoldingStack x = new HoldingStack();
    x.enter(LIGHT, 900, 0);
    int[] numbers = {-1, 1, 20, Integer.MAX_VALUE, Integer.MIN_VALUE};
    for (int number : numbers) {
      check.due("minutesLeft(" + number + ")", x.minutesLeft(number), BAD_INDEX);
      check.due("landsWith(" + number + ")", x.landsWith(number), BAD_INDEX);
      check.due("endurance(" + number + ")", x.endurance(number), BAD_INDEX);
    }
  }

  private static void oneAircraft() {
    HoldingStack x = new HoldingStack();
    x.enter(LIGHT, 500, 0);
    check.due("landsWith", x.landsWith(0), 488);
    check.due("minutesLeft", x.minutesLeft(0), 3);
    check.due("lands(0)", x.lands(0), 0);
    x.pass(2);
    check.due("minutesLeft", x.minutesLeft(0), 1);
    check.due("landsWith", x.landsWith(0), 488);
    x.pass(1);
    check.due("minutesLeft of a landed one", x.minutesLeft(0), 0);
    check.due("landsWith of a landed one", x.landsWith(0), 488);
    check.due("lands(0) after it", x.lands(0), NONE);
    x.pass(50);
    check.due("minutesLeft of one that landed long ago", x.minutesLeft(0), 0);
    check.due("landsWith of one that landed long ago", x.landsWith(0), 488);
  }

  private static void severalAircraft() {
    // The medium ones land in the minutes 3 (96 left) and 7 (62 left), 0 diverts in 9, 3 lands in 11.
    HoldingStack x = new HoldingStack();
    x.setLadder(false);
    x.enter(MEDIUM, 120, 7);
    x.enter(MEDIUM, 120, 5);
    x.enter(MEDIUM, 125, 3);
    x.enter(HEAVY, 900, 0);
    int[] minutes = {NONE, 3, 7, 11};
    int[] fuels = {NONE, 96, 62, 702};
    int[] order = {1, 2, 3, NONE, NONE};
    expect("at first", x, minutes, fuels, order);
    x.pass(5);
    expect("after 5 minutes", x, new int[] {NONE, 0, 2, 6}, fuels, new int[] {2, 3, NONE});
    x.pass(4);
    expect("after 9 minutes", x, new int[] {NONE, 0, 0, 2}, fuels, new int[] {3, NONE});
  }

  private static void expect(String when, HoldingStack x, int[] minutes, int[] fuels, int[] order) {
    for (int aircraft = 0; aircraft < minutes.length; aircraft++) {
      check.due(when + ": minutesLeft(" + aircraft + ")", x.minutesLeft(aircraft), minutes[aircraft]);
      check.due(when + ": landsWith(" + aircraft + ")", x.landsWith(aircraft), fuels[aircraft]);
    }
    for (int index = 0; index < order.length; index++) {
      check.due(when + ": lands(" + index + ")", x.lands(index), order[index]);
    }
  }

  private static void diverted() {
    HoldingStack x = new HoldingStack();
    x.setRunway(false);
    x.enter(LIGHT, 41, 0);
    x.pass(6);
    x.setRunway(true);
    expect("diverted", x, new int[] {NONE}, new int[] {NONE}, new int[] {NONE});
  }

  private static void closed() {
    HoldingStack x = new HoldingStack();
    x.setLap(2);
    x.enter(LIGHT, 900, 0);
    x.pass(1);
    x.enter(LIGHT, 9999, 0);
    x.setRunway(false);
    expect("closed", x, new int[] {0, NONE}, new int[] {896, NONE}, new int[] {NONE});
    x.setRunway(true);
    // Wait 2 after minute 1: minute 2 is over the fix with a wait of 1, minute 4 lands.
    expect("open", x, new int[] {0, 3}, new int[] {896, 9987}, new int[] {1, NONE});
  }

  private static void sixHundredMinutes() {
    HoldingStack x = new HoldingStack();
    x.begin(16);
    x.setLadder(false);
    x.enter(LIGHT, 1844, 10);
    x.pass(2);
    expect("601 minutes", x, new int[] {NONE}, new int[] {NONE}, new int[] {NONE});
    x.pass(1);
    check.due("over the fix", x.aircraft(0, 4), 0);
    // 1835 less 3 a minute is 47 after 596 minutes, not short, and 35 after 600.
    expect("600 minutes", x, new int[] {600}, new int[] {35}, new int[] {0, NONE});
    x.pass(1);
    expect("599 minutes", x, new int[] {599}, new int[] {35}, new int[] {0, NONE});
  }

  private static void endurance() {
    HoldingStack x = new HoldingStack();
    x.begin(16);
    x.setLadder(false);
    x.enter(LIGHT, 41, 1);
    x.enter(LIGHT, 44, 2);
    x.enter(LIGHT, 45, 3);
    x.enter(LIGHT, 100, 10);
    x.enter(MEDIUM, 900, 9);
    x.enter(HEAVY, 9999, 15);
    int[] minutes = {1, 1, 2, 20, 115, 815};
    for (int aircraft = 0; aircraft < minutes.length; aircraft++) {
      check.due("endurance(" + aircraft + ")", x.endurance(aircraft), minutes[aircraft]);
    }
    x.pass(1);
    check.due("short", x.endurance(0), 0);
    check.due("just the reserve", x.endurance(1), 0);
    check.due("one above it", x.endurance(2), 1);
    check.due("97 on level 10", x.endurance(3), 19);
    x.pass(2);
    check.due("0 landed", x.aircraft(0, 2), HoldingStack.LANDED);
    check.due("landed", x.endurance(0), NOT_POSSIBLE);
    x.setRunway(false);
    x.pass(10);
    check.due("1 diverted", x.aircraft(1, 2), HoldingStack.DIVERTED);
    check.due("diverted", x.endurance(1), NOT_POSSIBLE);
  }

  private static void bestLevelErrors() {
    HoldingStack x = new HoldingStack();
    check.due("kind -1", x.bestLevel(-1, 500), BAD_INDEX);
    check.due("kind 3", x.bestLevel(3, 500), BAD_INDEX);
    check.due("kind 3 and fuel 0", x.bestLevel(3, 0), BAD_INDEX);
    check.due("fuel 0", x.bestLevel(LIGHT, 0), BAD_VALUE);
    check.due("fuel 10000", x.bestLevel(LIGHT, 10000), BAD_VALUE);
    check.due("fuel 9999", x.bestLevel(LIGHT, 9999), 0);
    x.begin(16);
    x.setLap(2);
    for (int level = 0; level < 16; level++) {
      x.enter(LIGHT, 5000, level);
    }
    check.due("all levels taken", x.bestLevel(LIGHT, 500), NONE);
    x.pass(7);
    for (int level = 15; level > 12; level--) {
      x.enter(LIGHT, 5000, level);
    }
    check.due("19 aircraft", x.bestLevel(LIGHT, 500), 12);
    x.enter(LIGHT, 5000, 12);
    check.due("20 aircraft", x.bestLevel(LIGHT, 500), HoldingStack.FULL);
    check.due("20 aircraft, short", x.bestLevel(LIGHT, 5), HoldingStack.FULL);
    check.due("20 aircraft, fuel 0", x.bestLevel(LIGHT, 0), BAD_VALUE);
  }

  private static void bestLevelPlain() {
    HoldingStack x = new HoldingStack();
    x.enter(LIGHT, 900, 0);
    x.enter(LIGHT, 900, 1);
    // Levels 2 to 9 land one lap later each: 3 + 4 * level; the short ones in minute 3.
    check.due("behind two others", x.bestLevel(LIGHT, 900), 2);
    x.pass(3);
    check.due("0 landed, 1 on level 0", x.bestLevel(LIGHT, 900), 1);
    x.pass(4);
    check.due("both landed", x.bestLevel(HEAVY, 900), 0);
  }

  private static void bestLevelRefused() {
    HoldingStack x = new HoldingStack();
    check.due("the reserve", x.bestLevel(HEAVY, 220), NONE);
    check.due("one more", x.bestLevel(HEAVY, 221), 0);
    x.setLimit(1);
    check.due("room for one", x.bestLevel(LIGHT, 900), 0);
    x.enter(LIGHT, 900, 5);
    check.due("crowded", x.bestLevel(LIGHT, 900), NONE);
    x.setLimit(2);
    check.due("not crowded", x.bestLevel(LIGHT, 900), 0);
    x.setRunway(false);
    check.due("closed", x.bestLevel(LIGHT, 900), NONE);
  }

  private static void bestLevelLowestOfSeveral() {
    HoldingStack x = new HoldingStack();
    check.due("short in a minute, empty", x.bestLevel(LIGHT, 41), 0);
    x.setLadder(false);
    x.enter(MEDIUM, 900, 0);
    x.enter(MEDIUM, 900, 1);
    x.enter(MEDIUM, 900, 3);
    // On each free level it lands in minute 3, before the one on level 0, which is not short.
    check.due("short in a minute, 0, 1 and 3 taken", x.bestLevel(LIGHT, 41), 2);
  }

  private static void bestLevelAboveTheLowest() {
    HoldingStack x = new HoldingStack();
    x.begin(16);
    x.setLap(8);
    x.setLadder(false);
    x.enter(HEAVY, 9999, 0);
    // Over the fix in the minutes 7 and 15: with 4 a minute it has 42 and 10 of 70, with 3 a minute 49 and 25.
    check.due("the lower levels burn too much", x.bestLevel(LIGHT, 70), 10);
    x.enter(LIGHT, 70, 9);
    check.due("from level 9", x.minutesLeft(1), NONE);
    x.enter(LIGHT, 70, 10);
    check.due("from level 10", x.minutesLeft(2), 15);
    check.due("with", x.landsWith(2), 25);
  }

  private static void bestLevelWithinSixHundredMinutes() {
    HoldingStack x = new HoldingStack();
    x.begin(4);
    x.setLap(2);
    x.setLadder(false);
    x.enter(LIGHT, 9999, 0);
    x.enter(MEDIUM, 9999, 1);
    x.enter(MEDIUM, 9999, 2);
    // On level 3 it is over the fix in the odd minutes, and short from 40 on.
    check.due("minute 599 with 34", x.bestLevel(LIGHT, 2430), 3);
    check.due("minute 601 with 34", x.bestLevel(LIGHT, 2438), NONE);
    x.setLap(7);
    check.due("minute 594 with 36", x.bestLevel(LIGHT, 2412), 3);
    check.due("minute 601 with 26", x.bestLevel(LIGHT, 2430), NONE);
  }

  private static void landsErrors() {
    HoldingStack x = new HoldingStack();
    check.due("lands(0) of none", x.lands(0), NONE);
    check.due("lands(-1)", x.lands(-1), BAD_INDEX);
    check.due("lands(MIN)", x.lands(Integer.MIN_VALUE), BAD_INDEX);
    x.enter(LIGHT, 900, 0);
    check.due("lands(0)", x.lands(0), 0);
    check.due("lands(1)", x.lands(1), NONE);
    check.due("lands(MAX)", x.lands(Integer.MAX_VALUE), NONE);
  }

  private static void landedAircraftDoNotCount() {
    HoldingStack x = new HoldingStack();
    for (int level = 3; level >= 0; level--) {
      x.enter(LIGHT, 900, level);
    }
    for (int index = 0; index < 4; index++) {
      check.due("lands(" + index + ")", x.lands(index), 3 - index);
    }
    x.pass(7);
    check.tells("two landed", x, 5, 2);
    check.due("lands(0)", x.lands(0), 1);
    check.due("lands(1)", x.lands(1), 0);
    check.due("lands(2)", x.lands(2), NONE);
  }

  private static void questionsChangeNothing() {
    HoldingStack x = new HoldingStack();
    x.enter(LIGHT, 900, 0);
    x.enter(MEDIUM, 300, 4);
    x.enter(LIGHT, 900, 4);
    x.keep(0);
    Check.write(x, "t5;");
    long before = x.checksum();
    x.minutesLeft(1);
    x.landsWith(1);
    x.endurance(1);
    x.bestLevel(HEAVY, 500);
    x.bestLevel(HEAVY, 5);
    x.lands(0);
    x.lands(9);
    x.why(0);
    x.level(4);
    x.aircraft(0, 1);
    x.faultPosition();
    check.due("the checksum after questions", x.checksum(), before);
    check.tells("the reason after questions", x, 16, HoldingStack.TAKEN, 2);
    check.due("the text after questions", x.clearText(), 3);
  }
}
