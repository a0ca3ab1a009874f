/** Promises 7 and 8: enter and call. Each test bears the words of the document that it tests. */
public final class EnterTest {
  private static final int LIGHT = HoldingStack.LIGHT, MEDIUM = HoldingStack.MEDIUM, HEAVY = HoldingStack.HEAVY;
  private static final int BAD_INDEX = HoldingStack.BAD_INDEX, BAD_VALUE = HoldingStack.BAD_VALUE;
  private static final int REFUSED = HoldingStack.REFUSED, NOT_POSSIBLE = HoldingStack.NOT_POSSIBLE;
  private static final int FULL = HoldingStack.FULL, NONE = HoldingStack.NONE;
  private static final int TAKEN = HoldingStack.TAKEN, SHORT = HoldingStack.SHORT, CROWDED = HoldingStack.CROWDED;
  private static final int[] RESERVES = {40, 100, 220};
  private static final Check check = new Check();

  public static void main(String[] args) {
    returnsItsNumber();
    numbersGoOnBehindThoseThatLeft();
    kindRange();
    levelRange();
    fuelRange();
    ordersOfErrors();
    fullAtTwenty();
    fullIsNotRecorded();
    fullBeforeRefused();
    taken();
    takenUntilTheLevelIsFree();
    shortUpToTheReserve();
    crowdedFromTheLimitOn();
    crowdedByHoldingOnesOnly();
    crowdedAtSixteen();
    firstReasonThatApplies();
    otherwiseTheReasonIsZero();
    placeOneAndNotCalled();
    noOtherErrorSetsTheReason();
    refusedIsNotRecorded();
    refusedChangesOnlyTheReason();
    enterIsRecorded();

    callReturnsItsLevel();
    callOfNoAircraft();
    callOfOneThatIsNotHolding();
    callOnLevelZero();
    callOfACalledOne();
    callAgainAfterAStep();
    callWithAnAutomaticLadder();
    callIsRecorded();
    check.finish();
  }

  // ---- promise 7

  private static void returnsItsNumber() {
    check.sentence(7, "Returns its number");
    HoldingStack x = new HoldingStack();
    check.due("first", x.enter(HEAVY, 500, 9), 0);
    check.due("second", x.enter(LIGHT, 9999, 0), 1);
    check.due("refused", x.enter(LIGHT, 9999, 0), REFUSED);
    check.due("third", x.enter(MEDIUM, 300, 4), 2);
    check.tellsAircraft("first", x, 0, HEAVY, 500, HoldingStack.HOLDING, 9, 1, 0, 0, NONE);
    check.tellsAircraft("second", x, 1, LIGHT, 9999, HoldingStack.HOLDING, 0, 1, 0, 0, NONE);
    check.tellsAircraft("third", x, 2, MEDIUM, 300, HoldingStack.HOLDING, 4, 1, 0, 0, NONE);
    check.tells("entered", x, 3, 3, 3, 0, 0);
    check.tells("fuel", x, 12, 10799, 0, 0, 0, 0);
  }

  private static void numbersGoOnBehindThoseThatLeft() {
    check.sentence(7, "numbered from 0 in the order in which they entered");
    HoldingStack x = new HoldingStack();
    x.setLap(2);
    x.enter(LIGHT, 900, 0);
    x.pass(1);
    check.due("0 has landed", x.aircraft(0, 2), HoldingStack.LANDED);
    check.due("the next one", x.enter(LIGHT, 900, 0), 1);
    x.undo();
    check.due("the number is given again after undo()", x.enter(MEDIUM, 700, 5), 1);
    check.tellsAircraft("the new one", x, 1, MEDIUM, 700, HoldingStack.HOLDING, 5, 1, 0, 0, NONE);
    check.due("the old one's level", x.level(0), NONE);
  }

  private static void kindRange() {
    check.sentence(7, "`kind`: LIGHT to HEAVY");
    HoldingStack x = new HoldingStack();
    for (int bad : new int[] {-1, 3, Integer.MAX_VALUE, Integer.MIN_VALUE}) {
      check.changesNothing(x, "enter(" + bad + ", 500, 0)", () -> x.enter(bad, 500, 0), BAD_INDEX);
    }
    for (int kind = 0; kind < 3; kind++) {
      check.due("kind " + kind, x.enter(kind, 500, kind), kind);
      check.due("its kind", x.aircraft(kind, 0), kind);
    }
  }

  private static void levelRange() {
    check.sentence(7, "`level`: a level");
    for (int levels : new int[] {4, 10, 16}) {
      HoldingStack x = new HoldingStack();
      x.begin(levels);
      for (int bad : new int[] {-1, levels, 16, Integer.MAX_VALUE, Integer.MIN_VALUE}) {
        check.changesNothing(x, "level " + bad + " of " + levels, () -> x.enter(LIGHT, 500, bad), BAD_INDEX);
      }
      check.due("the highest of " + levels, x.enter(LIGHT, 500, levels - 1), 0);
      check.due("the lowest of " + levels, x.enter(LIGHT, 500, 0), 1);
      check.due("level() of the highest", x.level(levels - 1), 0);
      check.due("level() of the lowest", x.level(0), 1);
    }
  }

  private static void fuelRange() {
    check.sentence(7, "`fuel`: 1 to 9999");
    HoldingStack x = new HoldingStack();
    for (int bad : new int[] {0, 10000, -1, Integer.MAX_VALUE, Integer.MIN_VALUE}) {
      check.changesNothing(x, "fuel " + bad, () -> x.enter(LIGHT, bad, 0), BAD_VALUE);
    }
    check.due("fuel 1 is in its range, but short", x.enter(LIGHT, 1, 0), REFUSED);
    check.tells("fuel 1", x, 16, SHORT);
    check.due("fuel 9999", x.enter(LIGHT, 9999, 0), 0);
    check.due("fuel 9999", x.aircraft(0, 1), 9999);
  }

  private static void ordersOfErrors() {
    check.sentence(7, "Returns its number; BAD_INDEX; BAD_VALUE; FULL if there are 20 aircraft; REFUSED");
    HoldingStack x = new HoldingStack();
    x.enter(LIGHT, 500, 2);
    check.due("bad kind, bad fuel", x.enter(3, 0, 0), BAD_INDEX);
    check.due("bad kind, bad fuel, bad level", x.enter(-1, 10000, 10), BAD_INDEX);
    check.due("bad level, bad fuel", x.enter(LIGHT, 0, 10), BAD_INDEX);
    check.due("bad kind, taken level", x.enter(3, 500, 2), BAD_INDEX);
    check.due("bad level, short", x.enter(LIGHT, 40, 10), BAD_INDEX);
    check.due("bad fuel, taken level", x.enter(LIGHT, 0, 2), BAD_VALUE);
    check.due("bad fuel, taken level", x.enter(LIGHT, 10000, 2), BAD_VALUE);
    check.tells("no reason", x, 16, 0);
  }

  /** Twenty aircraft, of which four have landed: each of the sixteen levels is taken. */
  private static HoldingStack twenty() {
    HoldingStack x = new HoldingStack();
    x.begin(16);
    x.setLap(2);
    for (int level = 0; level < 16; level++) {
      x.enter(LIGHT, 5000, level);
    }
    // The wake of a light one is 2: one lands in each of the minutes 1, 3, 5 and 7, and the others go down.
    check.due("pass(7)", x.pass(7), 4);
    for (int level = 15; level > 12; level--) {
      x.enter(LIGHT, 5000, level);
    }
    check.tells("19 aircraft", x, 3, 19, 15, 4);
    check.due("the 20th", x.enter(LIGHT, 5000, 12), 19);
    return x;
  }

  private static void fullAtTwenty() {
    check.sentence(7, "FULL if there are 20 aircraft");
    HoldingStack x = twenty();
    check.tells("20 aircraft", x, 3, 20, 16, 4);
    x.pass(2);
    check.tells("one more has landed, a level is free", x, 3, 20, 15, 5);
    check.due("level(11)", x.level(11), NONE);
    check.changesNothing(x, "the 21st", () -> x.enter(LIGHT, 5000, 11), FULL);
    x.begin(16);
    check.due("there is room again", x.enter(LIGHT, 5000, 11), 0);
  }

  private static void fullIsNotRecorded() {
    check.sentence(7, "Each successful call of a method that is described as recorded records the state before it");
    HoldingStack x = twenty();
    check.due("the 21st, full history", x.enter(LIGHT, 5000, 15), FULL);
    // After undo() of a minute there is room in the history, so that its length would tell of one more state.
    x.pass(1);
    check.due("undo()", x.undo(), 4);
    check.changesNothing(x, "the 21st, four states", () -> x.enter(LIGHT, 5000, 15), FULL);
    check.due("undo()", x.undo(), 3);
    check.tells("undo() takes back the 20th", x, 3, 19);
  }

  private static void fullBeforeRefused() {
    check.sentence(7, "FULL if there are 20 aircraft; REFUSED if it is refused");
    HoldingStack x = twenty();
    check.due("taken level", x.enter(LIGHT, 5000, 15), FULL);
    check.due("short", x.enter(LIGHT, 5, 15), FULL);
    x.setLimit(1);
    check.due("crowded", x.enter(LIGHT, 5000, 15), FULL);
    check.tells("no reason", x, 16, 0);
    check.due("bad fuel", x.enter(LIGHT, 0, 15), BAD_VALUE);
    check.due("bad fuel", x.enter(LIGHT, 10000, 15), BAD_VALUE);
    check.due("bad level", x.enter(LIGHT, 500, 16), BAD_INDEX);
    check.due("bad kind", x.enter(3, 500, 15), BAD_INDEX);
  }

  private static void taken() {
    check.sentence(7, "TAKEN (1) if there is an aircraft on the level");
    HoldingStack x = new HoldingStack();
    x.enter(LIGHT, 900, 0);
    x.enter(LIGHT, 900, 9);
    for (int level : new int[] {0, 9}) {
      check.due("level " + level, x.enter(HEAVY, 900, level), REFUSED);
      check.tells("level " + level, x, 16, TAKEN);
    }
    check.due("beside one", x.enter(HEAVY, 900, 1), 2);
    check.due("beside one", x.enter(HEAVY, 900, 8), 3);
  }

  private static void takenUntilTheLevelIsFree() {
    check.sentence(7, "On a level there is at most one aircraft.");
    HoldingStack x = new HoldingStack();
    x.setLap(2);
    x.enter(LIGHT, 900, 0);
    x.enter(LIGHT, 900, 5);
    x.pass(1);
    check.due("where one landed", x.enter(LIGHT, 44, 0), 2);
    check.due("where one went down", x.enter(LIGHT, 900, 5), 3);
    check.due("where it is now", x.enter(LIGHT, 900, 4), REFUSED);
    x.setRunway(false);
    x.pass(7);
    check.due("2 is DIVERTED", x.aircraft(2, 2), HoldingStack.DIVERTED);
    check.due("where one diverted", x.enter(LIGHT, 900, 0), 4);
  }

  private static void shortUpToTheReserve() {
    check.sentence(7, "SHORT (2) if it would be short");
    for (int kind = 0; kind < 3; kind++) {
      HoldingStack x = new HoldingStack();
      check.due("less than the reserve, kind " + kind, x.enter(kind, RESERVES[kind] - 1, 2), REFUSED);
      check.tells("less than the reserve", x, 16, SHORT);
      x.begin(10);
      check.due("the reserve, kind " + kind, x.enter(kind, RESERVES[kind], 2), REFUSED);
      check.tells("the reserve", x, 16, SHORT);
      check.due("one more, kind " + kind, x.enter(kind, RESERVES[kind] + 1, 2), 0);
      check.tells("one more", x, 16, 0);
    }
  }

  private static void crowdedFromTheLimitOn() {
    check.sentence(7, "CROWDED (3) if as many aircraft as the limit or more are HOLDING");
    HoldingStack x = new HoldingStack();
    x.setLimit(3);
    x.enter(LIGHT, 900, 0);
    x.enter(LIGHT, 900, 1);
    check.due("one below the limit", x.enter(LIGHT, 900, 2), 2);
    check.due("at the limit", x.enter(LIGHT, 900, 3), REFUSED);
    check.tells("at the limit", x, 16, CROWDED);
    x.begin(10);
    x.enter(LIGHT, 900, 0);
    x.enter(LIGHT, 900, 1);
    x.setLimit(1);
    check.due("above the limit", x.enter(LIGHT, 900, 3), REFUSED);
    check.tells("above the limit", x, 16, CROWDED);
    x.begin(10);
    check.due("a limit of 1", x.enter(LIGHT, 900, 3), 0);
    check.due("a limit of 1", x.enter(LIGHT, 900, 4), REFUSED);
  }

  private static void crowdedByHoldingOnesOnly() {
    check.sentence(7, "the number of aircraft that may be HOLDING when one enters");
    HoldingStack x = new HoldingStack();
    x.setLap(2);
    x.setLimit(2);
    x.enter(LIGHT, 900, 0);
    x.enter(LIGHT, 48, 3);
    x.pass(1);
    check.tells("one landed", x, 3, 2, 1, 1);
    x.setRunway(false);
    check.due("instead of the one that landed", x.enter(LIGHT, 900, 9), 2);
    check.due("crowded", x.enter(LIGHT, 900, 8), REFUSED);
    // 44 are left, and less than 20 after seven minutes more.
    x.pass(7);
    check.tells("one diverted", x, 3, 3, 1, 1, 1);
    check.due("instead of the one that diverted", x.enter(LIGHT, 900, 9), 3);
    check.due("crowded", x.enter(LIGHT, 900, 8), REFUSED);
  }

  private static void crowdedAtSixteen() {
    check.sentence(7, "The limit, 1 to 16, at first 16");
    HoldingStack x = new HoldingStack();
    x.begin(16);
    for (int level = 0; level < 16; level++) {
      check.due("enter on " + level, x.enter(LIGHT, 900, level), level);
    }
    check.tells("sixteen", x, 3, 16, 16);
    x.begin(16);
    x.setLimit(15);
    for (int level = 0; level < 15; level++) {
      x.enter(LIGHT, 900, level);
    }
    check.due("the sixteenth with a limit of 15", x.enter(LIGHT, 900, 15), REFUSED);
    check.tells("the sixteenth with a limit of 15", x, 16, CROWDED);
  }

  private static void firstReasonThatApplies() {
    check.sentence(7, "is refused, for the first reason that applies");
    HoldingStack x = new HoldingStack();
    x.enter(HEAVY, 900, 3);
    refused(x, "taken and short", 40, 3, TAKEN);
    x.setLimit(1);
    refused(x, "taken, short and crowded", 40, 3, TAKEN);
    refused(x, "short and crowded", 40, 4, SHORT);
    refused(x, "taken and crowded", 900, 3, TAKEN);
    refused(x, "crowded", 900, 4, CROWDED);
  }

  private static void refused(HoldingStack x, String when, int fuel, int level, int reason) {
    check.due(when, x.enter(LIGHT, fuel, level), REFUSED);
    check.tells(when, x, 16, reason);
  }

  private static void otherwiseTheReasonIsZero() {
    check.sentence(7, "Otherwise the reason is 0");
    HoldingStack x = new HoldingStack();
    x.enter(LIGHT, 40, 0);
    check.tells("refused", x, 16, SHORT);
    x.enter(LIGHT, 41, 0);
    check.tells("entered", x, 16, 0);
  }

  private static void placeOneAndNotCalled() {
    check.sentence(7, "it is HOLDING there, at the place 1 of its lap, and not called");
    for (int lap = 2; lap <= 8; lap += 6) {
      HoldingStack x = new HoldingStack();
      x.setLap(lap);
      x.enter(LIGHT, 900, 9);
      x.call(0);
      x.pass(3);
      x.undo();
      x.undo();
      x.undo();
      check.due("lap " + lap, x.enter(MEDIUM, 800, 8), 0);
      check.tellsAircraft("lap " + lap, x, 0, MEDIUM, 800, HoldingStack.HOLDING, 8, 1, 0, 0, NONE);
      check.due("level(8)", x.level(8), 0);
      x.call(0);
      x.pass(1);
      x.begin(10);
      check.due("begun anew, lap " + lap, x.enter(LIGHT, 700, 5), 0);
      check.tellsAircraft("begun anew, lap " + lap, x, 0, LIGHT, 700, HoldingStack.HOLDING, 5, 1, 0, 0, NONE);
    }
  }

  private static void noOtherErrorSetsTheReason() {
    check.sentence(7, "the reason is set if it enters and if it is refused, by no other error");
    HoldingStack x = new HoldingStack();
    x.enter(LIGHT, 500, 2);
    x.enter(LIGHT, 500, 2);
    check.due("bad kind", x.enter(7, 500, 3), BAD_INDEX);
    check.tells("bad kind", x, 16, TAKEN);
    check.due("bad level", x.enter(LIGHT, 500, 10), BAD_INDEX);
    check.tells("bad level", x, 16, TAKEN);
    check.due("bad fuel", x.enter(LIGHT, 0, 3), BAD_VALUE);
    check.tells("bad fuel", x, 16, TAKEN);
    HoldingStack y = twenty();
    y.undo();
    y.enter(LIGHT, 5, 12);
    check.tells("19 aircraft, short", y, 16, SHORT);
    y.enter(LIGHT, 500, 12);
    check.tells("the 20th", y, 16, 0);
    check.due("the 21st", y.enter(LIGHT, 5, 12), FULL);
    check.tells("the 21st", y, 16, 0);
  }

  private static void refusedIsNotRecorded() {
    check.sentence(7, "a refused call is not recorded, but the reason stays set");
    HoldingStack x = new HoldingStack();
    x.enter(LIGHT, 900, 0);
    check.due("refused", x.enter(LIGHT, 900, 0), REFUSED);
    check.tells("refused", x, 16, TAKEN, 1);
    x.pass(1);
    check.tells("a minute later", x, 16, TAKEN, 2);
    x.undo();
    check.tells("undo() of the minute", x, 16, TAKEN, 1);
    x.enter(LIGHT, 900, 1);
    check.tells("entered", x, 16, 0, 2);
    x.undo();
    check.tells("undo() of the second", x, 16, TAKEN, 1);
    x.undo();
    check.tells("undo() of the first", x, 16, 0, 0);
  }

  private static void refusedChangesOnlyTheReason() {
    check.sentence(7, "A call that returns an error changes nothing, except that enter() sets the reason.");
    HoldingStack x = new HoldingStack();
    x.setLimit(2);
    x.enter(LIGHT, 900, 0);
    x.enter(LIGHT, 900, 9);
    int[][] tries = {{500, 9}, {40, 5}, {500, 5}};
    for (int[] one : tries) {
      x.enter(LIGHT, one[0], one[1]);
      // The reason is set already, so that the same try must leave everything as it is.
      check.changesNothing(x, "refused again", () -> x.enter(LIGHT, one[0], one[1]), REFUSED);
    }
    check.tells("aircraft", x, 3, 2, 2, 0, 0, 0);
    check.tells("fuel", x, 12, 1800);
    check.tells("history", x, 17, 3);
    check.due("level(5)", x.level(5), NONE);
    check.due("level(9)", x.level(9), 1);
  }

  private static void enterIsRecorded() {
    check.sentence(7, "An aircraft enters. Recorded.");
    HoldingStack x = new HoldingStack();
    x.enter(LIGHT, 40, 5);
    check.recorded(x, "enter(0, 900, 5)", () -> x.enter(LIGHT, 900, 5), 0);
    check.due("level(5) after undo()", x.level(5), NONE);
    check.due("aircraft(0, 0) after undo()", x.aircraft(0, 0), BAD_INDEX);
  }

  // ---- promise 8

  private static void callReturnsItsLevel() {
    check.sentence(8, "Returns its level");
    HoldingStack x = new HoldingStack();
    x.begin(16);
    x.enter(LIGHT, 900, 15);
    x.enter(MEDIUM, 900, 1);
    x.enter(MEDIUM, 900, 6);
    check.due("call(0)", x.call(0), 15);
    check.due("call(1)", x.call(1), 1);
    check.due("0 is called", x.aircraft(0, 5), 1);
    check.due("1 is called", x.aircraft(1, 5), 1);
    check.due("2 is not", x.aircraft(2, 5), 0);
  }

  private static void callOfNoAircraft() {
    check.sentence(8, "BAD_INDEX");
    HoldingStack x = new HoldingStack();
    check.due("call(0) of none", x.call(0), BAD_INDEX);
    x.enter(LIGHT, 900, 3);
    for (int bad : new int[] {-1, 1, 19, 20, Integer.MAX_VALUE, Integer.MIN_VALUE}) {
      check.changesNothing(x, "call(" + bad + ")", () -> x.call(bad), BAD_INDEX);
    }
    HoldingStack y = twenty();
    check.due("call(19) of 20", y.call(19), 12);
    check.due("call(20) of 20", y.call(20), BAD_INDEX);
  }

  private static void callOfOneThatIsNotHolding() {
    check.sentence(8, "NOT_POSSIBLE if it is not HOLDING");
    HoldingStack x = new HoldingStack();
    x.enter(LIGHT, 44, 9);
    x.pass(3);
    check.due("0 is LANDED", x.aircraft(0, 2), HoldingStack.LANDED);
    check.changesNothing(x, "call(0)", () -> x.call(0), NOT_POSSIBLE);
    x.setRunway(false);
    x.enter(LIGHT, 44, 8);
    x.pass(7);
    check.due("1 is DIVERTED", x.aircraft(1, 2), HoldingStack.DIVERTED);
    check.changesNothing(x, "call(1)", () -> x.call(1), NOT_POSSIBLE);
  }

  private static void callOnLevelZero() {
    check.sentence(8, "is on level 0");
    HoldingStack x = new HoldingStack();
    x.enter(LIGHT, 900, 0);
    x.enter(LIGHT, 900, 1);
    check.changesNothing(x, "call(0)", () -> x.call(0), NOT_POSSIBLE);
    check.due("call(1)", x.call(1), 1);
    // In minute 3 aircraft 0 lands and 1 goes down to level 0.
    x.pass(3);
    check.due("1 is on level 0", x.aircraft(1, 3), 0);
    check.changesNothing(x, "call(1)", () -> x.call(1), NOT_POSSIBLE);
  }

  private static void callOfACalledOne() {
    check.sentence(8, "or is called already");
    HoldingStack x = new HoldingStack();
    x.enter(LIGHT, 900, 5);
    check.due("call(0)", x.call(0), 5);
    check.changesNothing(x, "call(0) again", () -> x.call(0), NOT_POSSIBLE);
    x.undo();
    check.due("call(0) after undo()", x.call(0), 5);
  }

  private static void callAgainAfterAStep() {
    check.sentence(8, "is not called any more");
    HoldingStack x = new HoldingStack();
    x.setLadder(false);
    x.enter(LIGHT, 900, 5);
    x.call(0);
    x.pass(3);
    check.tellsAircraft("a step down", x, 0, LIGHT, 888, 0, 4, 0, 0, 0, NONE);
    check.due("call(0)", x.call(0), 4);
    check.due("call(0) again", x.call(0), NOT_POSSIBLE);
  }

  private static void callWithAnAutomaticLadder() {
    check.sentence(8, "Calls an aircraft down the ladder.");
    HoldingStack x = new HoldingStack();
    x.enter(LIGHT, 900, 5);
    check.due("call(0)", x.call(0), 5);
    x.pass(3);
    check.due("the step", x.aircraft(0, 3), 4);
    check.due("ends the call, too", x.aircraft(0, 5), 0);
    x.setRunway(false);
    x.enter(LIGHT, 50, 9);
    x.pass(3);
    check.due("a short one, on level 8 now", x.call(1), 8);
  }

  private static void callIsRecorded() {
    check.sentence(8, "Recorded.");
    HoldingStack x = new HoldingStack();
    x.enter(LIGHT, 900, 5);
    check.recorded(x, "call(0)", () -> x.call(0), 5);
    check.due("not called after undo()", x.aircraft(0, 5), 0);
  }
}
