/** Promises 14 to 18: minutesLeft, landsWith, endurance, bestLevel, lands. Each test bears the words that it tests. */
public final class ForecastTest {
  private static final int LIGHT = HoldingStack.LIGHT, MEDIUM = HoldingStack.MEDIUM, HEAVY = HoldingStack.HEAVY;
  private static final int LANDED = HoldingStack.LANDED, DIVERTED = HoldingStack.DIVERTED;
  private static final int BAD_INDEX = HoldingStack.BAD_INDEX, BAD_VALUE = HoldingStack.BAD_VALUE;
  private static final int FULL = HoldingStack.FULL, NONE = HoldingStack.NONE, NOT_POSSIBLE = HoldingStack.NOT_POSSIBLE;
  private static final int[] RESERVES = {40, 100, 220};
  private static final Check check = new Check();

  public static void main(String[] args) {
    minutesLeftRange();
    minutesLeftIsTheSmallestNumber();
    minutesLeftOfALandedOne();
    minutesLeftUpToSixHundred();
    minutesLeftOfOneThatDoesNotLand();
    minutesLeftIfOnlyMinutesPass();

    landsWithRange();
    landsWithItsFuelThen();
    landsWithHasLanded();
    landsWithUpToSixHundred();
    landsWithOfOneThatDoesNotLand();

    enduranceRange();
    enduranceOfAShortOne();
    enduranceRoundsUp();
    enduranceOnItsLevel();
    enduranceOfOneThatIsNotHolding();

    bestLevelRange();
    bestLevelOrderOfErrors();
    bestLevelFull();
    bestLevelRefusedOnEach();
    bestLevelRefusedOnSome();
    bestLevelWouldLandFromNone();
    bestLevelUpToSixHundred();
    bestLevelSoonest();
    bestLevelAboveOneFromWhichItWouldLandLater();
    bestLevelHighest();
    bestLevelLowestOfSeveral();

    landsRange();
    landsInTheirOrder();
    landsWithoutThoseThatHaveLanded();
    landsWithoutThoseThatDivert();
    landsUpToSixHundred();
    landsOfSixteen();

    severalQuestionsOneStack();
    questionsChangeNothing();
    check.finish();
  }

  // ---- promise 14

  private static void minutesLeftRange() {
    check.sentence(14, "BAD_INDEX");
    HoldingStack x = new HoldingStack();
    check.due("none", x.minutesLeft(0), BAD_INDEX);
    x.enter(LIGHT, 900, 0);
    for (int bad : new int[] {-1, 1, 19, 20, Integer.MAX_VALUE, Integer.MIN_VALUE}) {
      check.changesNothing(x, "minutesLeft(" + bad + ")", () -> x.minutesLeft(bad), BAD_INDEX);
    }
  }

  private static void minutesLeftIsTheSmallestNumber() {
    check.sentence(14, "Returns the smallest number of minutes, 0 to 600, after which it is LANDED");
    HoldingStack x = new HoldingStack();
    x.pass(50);
    x.enter(LIGHT, 900, 2);
    // Down in the minutes 3 and 7, landed in minute 11.
    for (int left = 11; left > 0; left--) {
      check.due("left", x.minutesLeft(0), left);
      check.due("not landed yet", x.aircraft(0, 2), HoldingStack.HOLDING);
      x.pass(1);
    }
    check.due("landed", x.aircraft(0, 2), LANDED);
  }

  private static void minutesLeftOfALandedOne() {
    check.sentence(14, "Returns the smallest number of minutes, 0 to 600, after which it is LANDED");
    HoldingStack x = new HoldingStack();
    x.enter(LIGHT, 900, 0);
    x.enter(LIGHT, 900, 1);
    x.pass(3);
    check.due("just landed", x.minutesLeft(0), 0);
    check.due("the other one", x.minutesLeft(1), 4);
    x.setRunway(false);
    check.due("landed, closed", x.minutesLeft(0), 0);
    x.pass(99);
    check.due("landed long ago", x.minutesLeft(0), 0);
  }

  /** An aircraft that lands from level 10 as soon as it is over the fix and short, in minute 600 from now on. */
  private static HoldingStack sixHundred() {
    HoldingStack x = new HoldingStack();
    x.begin(16);
    x.setLadder(false);
    x.enter(LIGHT, 1844, 10);
    // 1835 less 3 a minute is 47 after 596 minutes, not short, and 35 after 600, the next time over the fix.
    x.pass(3);
    check.tellsAircraft("600 minutes before", x, 0, LIGHT, 1835, HoldingStack.HOLDING, 10, 0);
    return x;
  }

  private static void minutesLeftUpToSixHundred() {
    check.sentence(14, "NONE if it is not LANDED after 600 minutes");
    HoldingStack x = sixHundred();
    check.due("600", x.minutesLeft(0), 600);
    x.pass(1);
    check.due("599", x.minutesLeft(0), 599);
    x.undo();
    x.undo();
    x.pass(2);
    check.due("601", x.minutesLeft(0), NONE);
  }

  private static void minutesLeftOfOneThatDoesNotLand() {
    check.sentence(14, "NONE if it is not LANDED after 600 minutes");
    HoldingStack x = new HoldingStack();
    x.setRunway(false);
    x.enter(LIGHT, 41, 0);
    x.enter(LIGHT, 9999, 1);
    check.due("it will divert", x.minutesLeft(0), NONE);
    check.due("closed", x.minutesLeft(1), NONE);
    x.pass(6);
    check.due("it diverted", x.minutesLeft(0), NONE);
    x.setRunway(true);
    check.due("it diverted, open", x.minutesLeft(0), NONE);
    // In minute 7 it is over the fix on level 1, goes down, and lands a lap later.
    check.due("open", x.minutesLeft(1), 5);
  }

  private static void minutesLeftIfOnlyMinutesPass() {
    check.sentence(14, "if only minutes pass");
    HoldingStack x = new HoldingStack();
    x.setLadder(false);
    x.enter(LIGHT, 100, 1);
    // 100 less 4 a minute: in minute 15, over the fix, 40 are left, and it lands from level 1.
    check.due("not called", x.minutesLeft(0), 15);
    x.call(0);
    check.due("called", x.minutesLeft(0), 7);
    x.enter(HEAVY, 230, 9);
    // The heavy one lands in minute 3, short, and its wake of 4 ends in minute 7.
    check.due("the heavy one", x.minutesLeft(1), 3);
    check.due("behind the heavy one", x.minutesLeft(0), 7);
  }

  // ---- promise 15

  private static void landsWithRange() {
    check.sentence(15, "BAD_INDEX");
    HoldingStack x = new HoldingStack();
    check.due("none", x.landsWith(0), BAD_INDEX);
    x.enter(LIGHT, 900, 0);
    for (int bad : new int[] {-1, 1, 19, 20, Integer.MAX_VALUE, Integer.MIN_VALUE}) {
      check.changesNothing(x, "landsWith(" + bad + ")", () -> x.landsWith(bad), BAD_INDEX);
    }
  }

  private static void landsWithItsFuelThen() {
    check.sentence(15, "Returns the fuel with which it lands");
    HoldingStack x = new HoldingStack();
    x.enter(HEAVY, 900, 5);
    // Three minutes on level 5, then four on each of 4 to 0: 16, 17, 17, 18, 18 and 18 a minute.
    int fuel = 900 - 3 * 16 - 4 * 17 - 4 * 17 - 3 * 4 * 18;
    check.due("from level 5", x.landsWith(0), fuel);
    x.pass(10);
    check.due("ten minutes later", x.landsWith(0), fuel);
    x.pass(13);
    check.due("it landed", x.aircraft(0, 1), fuel);
  }

  private static void landsWithHasLanded() {
    check.sentence(15, "or has landed");
    HoldingStack x = new HoldingStack();
    x.enter(LIGHT, 500, 0);
    x.pass(3);
    check.due("just landed", x.landsWith(0), 488);
    x.setRunway(false);
    x.pass(99);
    check.due("landed long ago", x.landsWith(0), 488);
  }

  private static void landsWithUpToSixHundred() {
    check.sentence(15, "if only up to 600 minutes pass");
    HoldingStack x = sixHundred();
    check.due("600", x.landsWith(0), 35);
    x.undo();
    x.pass(2);
    check.due("601", x.landsWith(0), NONE);
  }

  private static void landsWithOfOneThatDoesNotLand() {
    check.sentence(15, "NONE if it is not LANDED after them");
    HoldingStack x = new HoldingStack();
    x.setRunway(false);
    x.enter(LIGHT, 41, 0);
    x.enter(LIGHT, 9999, 1);
    check.due("it will divert", x.landsWith(0), NONE);
    check.due("closed", x.landsWith(1), NONE);
    x.pass(6);
    check.due("it diverted", x.landsWith(0), NONE);
    x.setRunway(true);
    check.due("open", x.landsWith(1), 9999 - 11 * 4);
  }

  // ---- promise 16

  private static void enduranceRange() {
    check.sentence(16, "BAD_INDEX");
    HoldingStack x = new HoldingStack();
    check.due("none", x.endurance(0), BAD_INDEX);
    x.enter(LIGHT, 900, 0);
    for (int bad : new int[] {-1, 1, 19, 20, Integer.MAX_VALUE, Integer.MIN_VALUE}) {
      check.changesNothing(x, "endurance(" + bad + ")", () -> x.endurance(bad), BAD_INDEX);
    }
  }

  private static void enduranceOfAShortOne() {
    check.sentence(16, "0 if it is");
    int[] rates = {4, 9, 18};
    for (int kind = 0; kind < 3; kind++) {
      HoldingStack x = new HoldingStack();
      x.setRunway(false);
      x.enter(kind, RESERVES[kind] + rates[kind], 0);
      check.due("a minute before, kind " + kind, x.endurance(0), 1);
      x.pass(1);
      check.due("just the reserve, kind " + kind, x.endurance(0), 0);
      x.pass(1);
      check.due("less, kind " + kind, x.endurance(0), 0);
      x.pass(1);
      check.due("less by two minutes, kind " + kind, x.endurance(0), 0);
    }
  }

  private static void enduranceRoundsUp() {
    check.sentence(16, "Returns the number of minutes after which it would be short");
    int[][] fuelAndMinutes = {{41, 1}, {43, 1}, {44, 1}, {45, 2}, {48, 2}, {49, 3}, {100, 15}, {9999, 2490}};
    for (int[] one : fuelAndMinutes) {
      HoldingStack x = new HoldingStack();
      x.enter(LIGHT, one[0], 0);
      check.due(one[0] + " of a light one", x.endurance(0), one[1]);
    }
  }

  private static void enduranceOnItsLevel() {
    check.sentence(16, "if it burned each minute what it burns on its level");
    HoldingStack x = new HoldingStack();
    x.begin(16);
    x.enter(LIGHT, 100, 9);
    x.enter(LIGHT, 100, 10);
    x.enter(HEAVY, 244, 15);
    x.enter(HEAVY, 245, 14);
    x.enter(MEDIUM, 900, 5);
    // 60 by 4 and by 3; 24 by 12 and 25 by 12; 800 by 8.
    int[] minutes = {15, 20, 2, 3, 100};
    for (int aircraft = 0; aircraft < minutes.length; aircraft++) {
      check.due("endurance(" + aircraft + ")", x.endurance(aircraft), minutes[aircraft]);
    }
    x.pass(3);
    check.due("a level lower: 876 left, 776 by 9", x.aircraft(4, 3), 4);
    check.due("a level lower: 876 left, 776 by 9", x.endurance(4), 87);
  }

  private static void enduranceOfOneThatIsNotHolding() {
    check.sentence(16, "NOT_POSSIBLE if it is not HOLDING");
    HoldingStack x = new HoldingStack();
    x.enter(LIGHT, 900, 0);
    x.pass(3);
    check.changesNothing(x, "landed", () -> x.endurance(0), NOT_POSSIBLE);
    x.setRunway(false);
    x.enter(LIGHT, 41, 0);
    x.pass(6);
    check.due("diverted", x.aircraft(1, 2), DIVERTED);
    check.changesNothing(x, "diverted", () -> x.endurance(1), NOT_POSSIBLE);
  }

  // ---- promise 17

  private static void bestLevelRange() {
    check.sentence(17, "Returns the level; BAD_INDEX; BAD_VALUE");
    HoldingStack x = new HoldingStack();
    x.enter(LIGHT, 900, 5);
    for (int bad : new int[] {-1, 3, Integer.MAX_VALUE, Integer.MIN_VALUE}) {
      check.changesNothing(x, "kind " + bad, () -> x.bestLevel(bad, 500), BAD_INDEX);
    }
    for (int bad : new int[] {0, 10000, -1, Integer.MAX_VALUE, Integer.MIN_VALUE}) {
      check.changesNothing(x, "fuel " + bad, () -> x.bestLevel(LIGHT, bad), BAD_VALUE);
    }
    for (int kind = 0; kind < 3; kind++) {
      check.due("kind " + kind + ", fuel 9999", x.bestLevel(kind, 9999), 0);
      check.due("kind " + kind + ", fuel 1", x.bestLevel(kind, 1), NONE);
    }
  }

  private static void bestLevelOrderOfErrors() {
    check.sentence(17, "Returns the level; BAD_INDEX; BAD_VALUE; FULL if there are 20 aircraft; NONE");
    HoldingStack x = new HoldingStack();
    check.due("bad kind, bad fuel", x.bestLevel(3, 0), BAD_INDEX);
    x.setRunway(false);
    check.due("bad kind, none", x.bestLevel(-1, 500), BAD_INDEX);
    check.due("bad fuel, none", x.bestLevel(LIGHT, 10000), BAD_VALUE);
  }

  private static void bestLevelFull() {
    check.sentence(17, "FULL if there are 20 aircraft");
    HoldingStack x = new HoldingStack();
    x.setLap(2);
    for (int aircraft = 0; aircraft < 19; aircraft++) {
      x.enter(LIGHT, 900, 0);
      // The wake is 2: over the fix in the next minute, and every second one.
      x.pass(2);
    }
    check.tells("nineteen", x, 3, 19);
    check.due("nineteen", x.bestLevel(LIGHT, 500), 0);
    x.enter(LIGHT, 900, 0);
    check.changesNothing(x, "twenty", () -> x.bestLevel(LIGHT, 500), FULL);
    check.due("twenty, short", x.bestLevel(LIGHT, 5), FULL);
    x.setLimit(1);
    check.due("twenty, crowded", x.bestLevel(LIGHT, 500), FULL);
    x.setRunway(false);
    check.due("twenty, closed", x.bestLevel(LIGHT, 500), FULL);
    check.due("twenty, bad fuel", x.bestLevel(LIGHT, 0), BAD_VALUE);
    check.due("twenty, bad kind", x.bestLevel(3, 500), BAD_INDEX);
  }

  private static void bestLevelRefusedOnEach() {
    check.sentence(17, "NONE if it would be refused on each level");
    for (int kind = 0; kind < 3; kind++) {
      HoldingStack x = new HoldingStack();
      check.due("the reserve, kind " + kind, x.bestLevel(kind, RESERVES[kind]), NONE);
      check.due("one more, kind " + kind, x.bestLevel(kind, RESERVES[kind] + 1), 0);
    }
    HoldingStack y = new HoldingStack();
    y.setLimit(1);
    check.due("room for one", y.bestLevel(LIGHT, 900), 0);
    y.enter(LIGHT, 900, 5);
    check.due("crowded", y.bestLevel(LIGHT, 900), NONE);
    y.setLimit(2);
    check.due("not crowded", y.bestLevel(LIGHT, 900), 0);
    HoldingStack z = new HoldingStack();
    z.begin(4);
    for (int level = 0; level < 4; level++) {
      z.enter(LIGHT, 900, level);
    }
    check.due("all levels taken", z.bestLevel(LIGHT, 500), NONE);
  }

  private static void bestLevelRefusedOnSome() {
    check.sentence(17, "the level on which an aircraft would have to enter now");
    HoldingStack x = new HoldingStack();
    x.enter(LIGHT, 900, 0);
    x.enter(LIGHT, 900, 1);
    // A landing each lap: from level k in minute 3 + 4 * k.
    check.due("0 and 1 taken", x.bestLevel(LIGHT, 900), 2);
    x.pass(3);
    check.due("0 landed, 1 on level 0", x.bestLevel(LIGHT, 900), 1);
    x.pass(4);
    check.due("both landed", x.bestLevel(HEAVY, 900), 0);
  }

  private static void bestLevelWouldLandFromNone() {
    check.sentence(17, "or would land from none");
    HoldingStack x = new HoldingStack();
    check.due("open", x.bestLevel(LIGHT, 900), 0);
    x.setRunway(false);
    check.due("closed", x.bestLevel(LIGHT, 900), NONE);
    HoldingStack y = new HoldingStack();
    y.setLap(8);
    // Over the fix in minute 7: 60 leave 32, less than what the heavy one has then.
    y.enter(HEAVY, 240, 9);
    check.due("with 60", y.bestLevel(LIGHT, 60), 0);
    y.pass(7);
    check.tells("the heavy one landed", y, 3, 1, 0, 1);
    check.due("with 41, 13 then", y.bestLevel(LIGHT, 41), NONE);
    check.due("with 47, 19 then", y.bestLevel(LIGHT, 47), NONE);
    check.due("with 48, 20 then", y.bestLevel(LIGHT, 48), 0);
  }

  private static void bestLevelUpToSixHundred() {
    check.sentence(17, "if then only up to 600 minutes passed");
    HoldingStack x = new HoldingStack();
    x.begin(4);
    x.setLap(2);
    x.setLadder(false);
    x.enter(LIGHT, 9999, 0);
    x.enter(MEDIUM, 9999, 1);
    x.enter(MEDIUM, 9999, 2);
    // On level 3 it is over the fix in the odd minutes, and short from 40 on.
    check.due("minute 599 with 34", x.bestLevel(LIGHT, 2430), 3);
    check.due("minute 601 with 34", x.bestLevel(LIGHT, 2438), NONE);
    HoldingStack y = new HoldingStack();
    y.begin(4);
    y.setLap(3);
    y.setLadder(false);
    // Over the fix in the minutes 2, 5 and so on, 599 and 602.
    y.enter(LIGHT, 9999, 0);
    y.enter(LIGHT, 9999, 1);
    y.enter(LIGHT, 9999, 2);
    check.due("minute 599 with 40", y.bestLevel(LIGHT, 2436), 3);
    check.due("minute 602 with 29", y.bestLevel(LIGHT, 2437), NONE);
  }

  private static void bestLevelSoonest() {
    check.sentence(17, "to land soonest");
    HoldingStack x = new HoldingStack();
    x.begin(16);
    x.setLap(8);
    x.setLadder(false);
    x.enter(HEAVY, 9999, 0);
    // Over the fix in the minutes 7 and 15: with 4 a minute it has 42 and 10 of 70, with 3 a minute 49 and 25.
    check.due("the lower levels burn too much", x.bestLevel(LIGHT, 70), 10);
    // 61 are 33 in minute 7 with 4 a minute, and 40 with 3.
    check.due("short in minute 7 on each level", x.bestLevel(LIGHT, 61), 1);
    // 64 are 36 in minute 7 with 4 a minute, 43 with 3, where it lands in minute 15 only.
    check.due("short in minute 7 on the lower ones", x.bestLevel(LIGHT, 64), 1);
    x.enter(LIGHT, 70, 9);
    check.due("from level 9", x.minutesLeft(1), NONE);
    x.enter(LIGHT, 70, 10);
    check.due("from level 10", x.minutesLeft(2), 15);
  }

  private static void bestLevelAboveOneFromWhichItWouldLandLater() {
    check.sentence(17, "Finds the level on which an aircraft would have to enter now to land soonest");
    HoldingStack x = new HoldingStack();
    x.enter(HEAVY, 333, 5);
    x.pass(1);
    x.enter(LIGHT, 75, 0);
    // On level 4 the heavy one would have 217 in minute 6, land, short, and let the new one wait until minute 11. If the
    // new one is on level 4, the heavy one stays on 5, has 221 in minute 6, and the new one lands in minute 7, short.
    check.due("4 keeps the heavy one up", x.bestLevel(LIGHT, 64), 4);
    for (int level : new int[] {1, 2, 3, 4, 6, 7, 8, 9}) {
      x.enter(LIGHT, 64, level);
      check.due("entered on level " + level, x.minutesLeft(2), level == 4 ? 7 : 11);
      x.undo();
    }
    HoldingStack y = new HoldingStack();
    y.enter(HEAVY, 326, 7);
    y.enter(MEDIUM, 150, 0);
    y.pass(2);
    check.due("6 keeps the heavy one up", y.bestLevel(LIGHT, 68), 6);
  }

  private static void bestLevelHighest() {
    check.sentence(17, "Finds the level");
    HoldingStack x = new HoldingStack();
    for (int level = 0; level < 9; level++) {
      x.enter(LIGHT, 900, level);
    }
    check.due("only the highest is free", x.bestLevel(LIGHT, 900), 9);
    x.begin(16);
    for (int level = 0; level < 15; level++) {
      x.enter(LIGHT, 900, level);
    }
    check.due("only the highest of 16 is free", x.bestLevel(LIGHT, 900), 15);
  }

  private static void bestLevelLowestOfSeveral() {
    check.sentence(17, "of several the lowest one");
    HoldingStack x = new HoldingStack();
    check.due("short in a minute, empty", x.bestLevel(LIGHT, 41), 0);
    x.setLadder(false);
    x.enter(MEDIUM, 900, 0);
    x.enter(MEDIUM, 900, 1);
    x.enter(MEDIUM, 900, 3);
    // On each free level it lands in minute 3, before the one on level 0, which is not short.
    check.due("short in a minute, 0, 1 and 3 taken", x.bestLevel(LIGHT, 41), 2);
  }

  // ---- promise 18

  private static void landsRange() {
    check.sentence(18, "BAD_INDEX if index is negative; NONE if not so many land");
    HoldingStack x = new HoldingStack();
    check.due("lands(0) of none", x.lands(0), NONE);
    check.due("lands(-1) of none", x.lands(-1), BAD_INDEX);
    x.enter(LIGHT, 900, 0);
    check.due("lands(0)", x.lands(0), 0);
    for (int bad : new int[] {-1, -20, Integer.MIN_VALUE}) {
      check.changesNothing(x, "lands(" + bad + ")", () -> x.lands(bad), BAD_INDEX);
    }
    for (int high : new int[] {1, 2, 20, 600, Integer.MAX_VALUE}) {
      check.changesNothing(x, "lands(" + high + ")", () -> x.lands(high), NONE);
    }
  }

  private static void landsInTheirOrder() {
    check.sentence(18, "0 for the next one that lands");
    HoldingStack x = new HoldingStack();
    for (int level = 3; level >= 0; level--) {
      x.enter(LIGHT, 900, level);
    }
    x.enter(HEAVY, 240, 9);
    // The heavy one lands in minute 3, short, with a wake of 4; the others in the minutes 7, 11, 15 and 19.
    int[] order = {4, 3, 2, 1, 0, NONE};
    for (int index = 0; index < order.length; index++) {
      check.due("lands(" + index + ")", x.lands(index), order[index]);
    }
  }

  private static void landsWithoutThoseThatHaveLanded() {
    check.sentence(18, "(those that are LANDED already do not count)");
    HoldingStack x = new HoldingStack();
    for (int level = 3; level >= 0; level--) {
      x.enter(LIGHT, 900, level);
    }
    x.pass(7);
    check.tells("two landed", x, 5, 2);
    check.due("lands(0)", x.lands(0), 1);
    check.due("lands(1)", x.lands(1), 0);
    check.due("lands(2)", x.lands(2), NONE);
    x.pass(8);
    check.tells("all landed", x, 5, 4);
    check.due("lands(0) after all", x.lands(0), NONE);
  }

  private static void landsWithoutThoseThatDivert() {
    check.sentence(18, "NONE if not so many land");
    HoldingStack x = new HoldingStack();
    x.setLadder(false);
    x.enter(MEDIUM, 120, 7);
    x.enter(MEDIUM, 120, 5);
    x.enter(MEDIUM, 125, 3);
    x.enter(HEAVY, 900, 0);
    // 1 lands in minute 3, 2 in minute 7, 0 diverts in 9, 3 lands in 11.
    int[] order = {1, 2, 3, NONE};
    for (int index = 0; index < order.length; index++) {
      check.due("lands(" + index + ")", x.lands(index), order[index]);
    }
    x.setRunway(false);
    check.due("closed", x.lands(0), NONE);
  }

  private static void landsUpToSixHundred() {
    check.sentence(18, "if only up to 600 minutes pass");
    HoldingStack x = sixHundred();
    check.due("600", x.lands(0), 0);
    x.undo();
    x.pass(2);
    check.due("601", x.lands(0), NONE);
  }

  private static void landsOfSixteen() {
    check.sentence(18, "1 for the one behind it, and so on");
    HoldingStack x = new HoldingStack();
    x.begin(16);
    for (int level = 15; level >= 0; level--) {
      x.enter(MEDIUM, 900, level);
    }
    for (int index = 0; index < 16; index++) {
      check.due("lands(" + index + ")", x.lands(index), 15 - index);
    }
    check.due("lands(16)", x.lands(16), NONE);
  }

  // ---- all of them

  private static void severalQuestionsOneStack() {
    check.sentence(14, "Returns the smallest number of minutes, 0 to 600, after which it is LANDED");
    // The medium ones land in the minutes 3 (96 left) and 7 (62 left), 0 diverts in 9, 3 lands in 11.
    HoldingStack x = new HoldingStack();
    x.setLadder(false);
    x.enter(MEDIUM, 120, 7);
    x.enter(MEDIUM, 120, 5);
    x.enter(MEDIUM, 125, 3);
    x.enter(HEAVY, 900, 0);
    expect("at first", x, NONE, 3, 7, 11);
    x.pass(5);
    expect("after 5 minutes", x, NONE, 0, 2, 6);
    x.pass(4);
    expect("after 9 minutes", x, NONE, 0, 0, 2);
  }

  private static void expect(String when, HoldingStack x, int... minutes) {
    int[] fuels = {NONE, 96, 62, 702};
    for (int aircraft = 0; aircraft < minutes.length; aircraft++) {
      check.due(when + ": minutesLeft(" + aircraft + ")", x.minutesLeft(aircraft), minutes[aircraft]);
      check.due(when + ": landsWith(" + aircraft + ")", x.landsWith(aircraft), fuels[aircraft]);
    }
  }

  private static void questionsChangeNothing() {
    check.sentence(14, "questions (nothing is changed by them)");
    HoldingStack x = new HoldingStack();
    x.enter(LIGHT, 900, 0);
    x.enter(MEDIUM, 300, 4);
    x.enter(LIGHT, 900, 4);
    x.keep(0);
    Check.write(x, "t5;");
    long before = x.checksum();
    x.why(0);
    x.minutesLeft(1);
    x.landsWith(1);
    x.endurance(1);
    x.bestLevel(HEAVY, 500);
    x.bestLevel(HEAVY, 5);
    x.lands(0);
    x.lands(9);
    x.level(4);
    x.aircraft(0, 1);
    x.faultPosition();
    check.due("checksum()", x.checksum(), before);
    check.tells("reason and history", x, 16, HoldingStack.TAKEN, 2);
    check.due("the text", x.clearText(), 3);
    x.pass(3);
    check.due("the slot", x.restore(0), 0);
    check.due("checksum() of the slot, undone", x.undo() + x.undo(), 5);
    check.due("checksum()", x.checksum(), before);
  }
}
