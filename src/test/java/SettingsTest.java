/** Promises 1 to 6: a new object, begin, and the settings. Each test bears the words of the document that it tests. */
public final class SettingsTest {
  private static final int LIGHT = HoldingStack.LIGHT, HEAVY = HoldingStack.HEAVY;
  private static final int BAD_INDEX = HoldingStack.BAD_INDEX, BAD_VALUE = HoldingStack.BAD_VALUE;
  private static final int NOT_POSSIBLE = HoldingStack.NOT_POSSIBLE, NONE = HoldingStack.NONE;
  private static final Check check = new Check();

  public static void main(String[] args) {
    newStackIsEmpty();
    newStackIsAsAtFirst();
    newTextIsEmpty();
    newHistoryIsEmpty();
    newSlotsAreEmpty();
    newReasonIsZero();
    newObjectsAreApart();

    beginRange();
    beginMakesLevels();
    beginReturnsThePrevious();
    beginLeavesNoAircraft();
    beginLeavesNothingOnHigherLevels();
    beginEndsCountsAndTime();
    beginEndsWaitAndReason();
    beginLeavesTheSettings();
    beginIsRecorded();

    lapRange();
    lapReturnsThePrevious();
    lapMovesPlaces();
    lapMovesPlacesOnEachLevel();
    lapBringsNoPlaceBack();
    lapIsRecorded();

    limitRange();
    limitReturnsThePrevious();
    limitDrivesNoneAway();
    limitIsRecorded();

    runwayReturnsWhatItWas();
    runwayLeavesTheWait();
    runwayIsRecorded();

    ladderReturnsWhatItWas();
    ladderIsRecorded();
    check.finish();
  }

  // ---- promise 1

  private static void newStackIsEmpty() {
    check.sentence(1, "Creates an empty stack");
    HoldingStack x = new HoldingStack();
    check.tells("new", x, 3, 0, 0, 0, 0, 0);
    check.due("aircraft(0, 0)", x.aircraft(0, 0), BAD_INDEX);
    for (int level = 0; level < 10; level++) {
      check.due("level(" + level + ")", x.level(level), NONE);
    }
  }

  private static void newStackIsAsAtFirst() {
    check.sentence(1, "with everything as at first");
    HoldingStack x = new HoldingStack();
    check.tells("time, levels, lap", x, 0, 0, 10, 4);
    check.tells("wait, runway, ladder, limit, fuel", x, 8, 0, 1, 1, 16, 0, 0, 0, 0);
    check.due("level(9)", x.level(9), NONE);
    check.due("level(10)", x.level(10), BAD_INDEX);
  }

  private static void newTextIsEmpty() {
    check.sentence(1, "with an empty text");
    check.due("clearText()", new HoldingStack().clearText(), 0);
    check.due("append(111)", new HoldingStack().append('o'), 1);
    check.due("run()", new HoldingStack().run(), 0);
  }

  private static void newHistoryIsEmpty() {
    check.sentence(1, "an empty history");
    HoldingStack x = new HoldingStack();
    check.tells("new", x, 17, 0);
    check.due("undo()", x.undo(), NOT_POSSIBLE);
  }

  private static void newSlotsAreEmpty() {
    check.sentence(1, "empty slots");
    HoldingStack x = new HoldingStack();
    check.due("restore(0)", x.restore(0), NOT_POSSIBLE);
    check.due("restore(1)", x.restore(1), NOT_POSSIBLE);
  }

  private static void newReasonIsZero() {
    check.sentence(1, "the reason is 0");
    check.tells("new", new HoldingStack(), 16, 0);
  }

  private static void newObjectsAreApart() {
    check.sentence(1, "HoldingStack()");
    HoldingStack x = new HoldingStack();
    HoldingStack y = new HoldingStack();
    x.begin(16);
    x.enter(LIGHT, 900, 0);
    x.append('o');
    x.keep(0);
    newLike(y);
    newLike(new HoldingStack());
    check.due("aircraft of the first", x.aircraft(0, 1), 900);
  }

  private static void newLike(HoldingStack x) {
    check.tells("beside another", x, 0, 0, 10, 4, 0);
    check.due("undo() beside another", x.undo(), NOT_POSSIBLE);
    check.due("restore(0) beside another", x.restore(0), NOT_POSSIBLE);
    check.due("clearText() beside another", x.clearText(), 0);
  }

  // ---- promise 2

  private static void beginRange() {
    check.sentence(2, "4 to 16");
    HoldingStack x = new HoldingStack();
    x.enter(LIGHT, 900, 3);
    for (int bad : new int[] {3, 17, 0, -1, -4, Integer.MAX_VALUE, Integer.MIN_VALUE}) {
      check.changesNothing(x, "begin(" + bad + ")", () -> x.begin(bad), BAD_VALUE);
    }
    check.due("begin(4)", x.begin(4), 10);
    check.due("begin(16)", x.begin(16), 4);
  }

  private static void beginMakesLevels() {
    check.sentence(2, "levels, 0 to n - 1 from the lowest one up, with n from 4 to 16");
    HoldingStack x = new HoldingStack();
    for (int levels = 4; levels <= 16; levels++) {
      x.begin(levels);
      check.tells("begin(" + levels + ")", x, 1, levels);
      check.due("the highest of " + levels, x.level(levels - 1), NONE);
      check.due("above the highest of " + levels, x.level(levels), BAD_INDEX);
      check.due("enter on the highest of " + levels, x.enter(LIGHT, 900, levels - 1), 0);
      check.due("enter above the highest of " + levels, x.enter(LIGHT, 900, levels), BAD_INDEX);
    }
  }

  private static void beginReturnsThePrevious() {
    check.sentence(2, "Returns the previous number of levels");
    HoldingStack x = new HoldingStack();
    check.due("begin(16)", x.begin(16), 10);
    check.due("begin(16) again", x.begin(16), 16);
    check.due("begin(4)", x.begin(4), 16);
    check.due("begin(10)", x.begin(10), 4);
  }

  private static void beginLeavesNoAircraft() {
    check.sentence(2, "Begins anew: there are no aircraft");
    HoldingStack x = new HoldingStack();
    x.enter(LIGHT, 900, 0);
    x.enter(HEAVY, 900, 3);
    x.enter(HEAVY, 900, 9);
    x.call(1);
    x.begin(10);
    check.due("aircraft(0, 0)", x.aircraft(0, 0), BAD_INDEX);
    check.due("why(0)", x.why(0), BAD_INDEX);
    check.due("lands(0)", x.lands(0), NONE);
    for (int level = 0; level < 10; level++) {
      check.due("level(" + level + ")", x.level(level), NONE);
    }
    check.due("the next one", x.enter(LIGHT, 50, 4), 0);
    check.due("the one behind it", x.enter(LIGHT, 60, 3), 1);
    check.tellsAircraft("the one behind it", x, 1, LIGHT, 60, 0, 3, 1, 0, 0, NONE);
  }

  private static void beginLeavesNothingOnHigherLevels() {
    check.sentence(2, "Begins anew: there are no aircraft");
    HoldingStack x = new HoldingStack();
    x.begin(16);
    x.enter(LIGHT, 900, 15);
    x.begin(4);
    x.enter(LIGHT, 900, 3);
    x.begin(16);
    check.due("level(15)", x.level(15), NONE);
    check.due("level(3)", x.level(3), NONE);
    check.due("enter on 15", x.enter(LIGHT, 900, 15), 0);
  }

  private static void beginEndsCountsAndTime() {
    check.sentence(2, "all counts and the time are 0");
    HoldingStack x = new HoldingStack();
    x.setLap(2);
    x.enter(HEAVY, 900, 0);
    x.enter(LIGHT, 900, 9);
    x.enter(LIGHT, 41, 4);
    // Minute 1: 2 has 37 left, is short, over the fix, and lands; 1 goes down. Later 3, with 17, is DIVERTED.
    x.pass(1);
    x.setRunway(false);
    x.enter(LIGHT, 41, 2);
    x.pass(6);
    check.tells("before", x, 3, 4, 2, 1, 1);
    check.tells("fuel before", x, 14, 37, 17);
    x.begin(8);
    check.tells("time", x, 0, 0);
    check.tells("aircraft and steps", x, 3, 0, 0, 0, 0, 0);
    check.tells("fuel", x, 12, 0, 0, 0, 0);
  }

  private static void beginEndsWaitAndReason() {
    check.sentence(2, "the wait and the reason, too");
    HoldingStack x = new HoldingStack();
    x.setLap(2);
    x.enter(HEAVY, 900, 0);
    x.pass(1);
    x.enter(LIGHT, 40, 0);
    check.tells("wait before", x, 8, 4);
    check.tells("reason before", x, 16, HoldingStack.SHORT);
    x.begin(10);
    check.tells("wait", x, 8, 0);
    check.tells("reason", x, 16, 0);
    x.enter(LIGHT, 900, 0);
    check.due("nothing is left to wait for", x.pass(1), 1);
  }

  private static void beginLeavesTheSettings() {
    check.sentence(2, "The lap, the limit, the runway and the ladder stay.");
    HoldingStack x = new HoldingStack();
    x.setLap(7);
    x.setLimit(3);
    x.setRunway(false);
    x.setLadder(false);
    x.begin(6);
    check.tells("lap", x, 2, 7);
    check.tells("runway, ladder, limit", x, 9, 0, 0, 3);
    x.setRunway(true);
    x.setLadder(true);
    x.begin(6);
    check.tells("runway, ladder, limit", x, 9, 1, 1, 3);
  }

  private static void beginIsRecorded() {
    check.sentence(2, "Recorded.");
    HoldingStack x = new HoldingStack();
    check.recorded(x, "begin(10), nothing different", () -> x.begin(10), 10);
    x.begin(12);
    x.setLap(2);
    x.enter(HEAVY, 900, 11);
    x.enter(HEAVY, 900, 0);
    check.recorded(x, "begin(4)", () -> x.begin(4), 12);
    check.due("level(11) is back", x.level(11), 0);
  }

  // ---- promise 3

  private static void lapRange() {
    check.sentence(3, "2 to 8");
    HoldingStack x = new HoldingStack();
    x.enter(LIGHT, 900, 3);
    x.pass(2);
    for (int bad : new int[] {1, 9, 0, -1, -2, Integer.MAX_VALUE, Integer.MIN_VALUE}) {
      check.changesNothing(x, "setLap(" + bad + ")", () -> x.setLap(bad), BAD_VALUE);
    }
    check.due("setLap(2)", x.setLap(2), 4);
    check.due("setLap(8)", x.setLap(8), 2);
    check.tells("lap", x, 2, 8);
  }

  private static void lapReturnsThePrevious() {
    check.sentence(3, "Returns the previous lap");
    HoldingStack x = new HoldingStack();
    check.due("setLap(8)", x.setLap(8), 4);
    check.due("setLap(8) again", x.setLap(8), 8);
    check.due("setLap(2)", x.setLap(2), 8);
    check.due("setLap(3)", x.setLap(3), 2);
  }

  private static void lapMovesPlaces() {
    check.sentence(3, "Places that there are not any more become 0.");
    for (int place = 1; place < 8; place++) {
      for (int lap = 2; lap <= 8; lap++) {
        HoldingStack x = new HoldingStack();
        x.setLap(8);
        x.enter(LIGHT, 900, 3);
        if (place > 1) {
          x.pass(place - 1);
        }
        check.due("the place at first", x.aircraft(0, 4), place);
        x.setLap(lap);
        check.due("place " + place + " in a lap of " + lap, x.aircraft(0, 4), place < lap ? place : 0);
      }
    }
  }

  private static void lapMovesPlacesOnEachLevel() {
    check.sentence(3, "Places that there are not any more become 0.");
    HoldingStack x = new HoldingStack();
    x.begin(16);
    x.setLap(5);
    for (int level = 0; level < 16; level++) {
      x.enter(LIGHT, 900, level);
    }
    x.pass(2);
    x.setLap(3);
    for (int aircraft = 0; aircraft < 16; aircraft++) {
      check.due("place 3 on level " + aircraft, x.aircraft(aircraft, 4), 0);
    }
    x.pass(1);
    check.due("it goes on from there", x.aircraft(7, 4), 1);
  }

  private static void lapBringsNoPlaceBack() {
    check.sentence(3, "Places that there are not any more become 0.");
    HoldingStack x = new HoldingStack();
    x.setRunway(false);
    x.enter(LIGHT, 900, 0);
    x.enter(LIGHT, 900, 1);
    x.pass(2);
    x.setLap(3);
    x.setLap(8);
    check.due("a longer lap", x.aircraft(0, 4), 0);
    check.due("over the fix", x.why(0), 3);
    x.pass(7);
    check.due("it begins a whole lap", x.aircraft(0, 4), 7);
    x.pass(1);
    check.due("of 8", x.aircraft(0, 4), 0);
  }

  private static void lapIsRecorded() {
    check.sentence(3, "Recorded.");
    HoldingStack x = new HoldingStack();
    check.recorded(x, "setLap(4), nothing different", () -> x.setLap(4), 4);
    x.enter(LIGHT, 900, 0);
    x.pass(2);
    check.recorded(x, "setLap(2)", () -> x.setLap(2), 4);
    check.due("the place is back", x.aircraft(0, 4), 3);
  }

  // ---- promise 4

  private static void limitRange() {
    check.sentence(4, "1 to 16");
    HoldingStack x = new HoldingStack();
    x.enter(LIGHT, 900, 3);
    for (int bad : new int[] {0, 17, -1, Integer.MAX_VALUE, Integer.MIN_VALUE}) {
      check.changesNothing(x, "setLimit(" + bad + ")", () -> x.setLimit(bad), BAD_VALUE);
    }
    check.due("setLimit(1)", x.setLimit(1), 16);
    check.tells("limit", x, 11, 1);
    check.due("setLimit(16)", x.setLimit(16), 1);
    check.tells("limit", x, 11, 16);
    x.begin(4);
    check.due("a limit above the number of levels", x.setLimit(16), 16);
  }

  private static void limitReturnsThePrevious() {
    check.sentence(4, "Returns the previous limit");
    HoldingStack x = new HoldingStack();
    check.due("setLimit(5)", x.setLimit(5), 16);
    check.due("setLimit(5) again", x.setLimit(5), 5);
    check.due("setLimit(9)", x.setLimit(9), 5);
  }

  private static void limitDrivesNoneAway() {
    check.sentence(4, "Sets the limit.");
    HoldingStack x = new HoldingStack();
    x.enter(LIGHT, 900, 3);
    x.enter(LIGHT, 900, 5);
    x.setLimit(1);
    check.tells("one more than the limit", x, 3, 2, 2, 0, 0);
    x.pass(1);
    check.tells("a minute later", x, 3, 2, 2, 0, 0);
  }

  private static void limitIsRecorded() {
    check.sentence(4, "Recorded.");
    HoldingStack x = new HoldingStack();
    check.recorded(x, "setLimit(16), nothing different", () -> x.setLimit(16), 16);
    x.setLimit(3);
    check.recorded(x, "setLimit(7)", () -> x.setLimit(7), 3);
    check.tells("the limit is back", x, 11, 3);
  }

  // ---- promise 5

  private static void runwayReturnsWhatItWas() {
    check.sentence(5, "Returns 1 if it was open, 0 if not.");
    HoldingStack x = new HoldingStack();
    check.due("setRunway(true)", x.setRunway(true), 1);
    check.tells("open", x, 9, 1);
    check.due("setRunway(false)", x.setRunway(false), 1);
    check.tells("closed", x, 9, 0);
    check.due("setRunway(false) again", x.setRunway(false), 0);
    check.tells("closed", x, 9, 0);
    check.due("setRunway(true) again", x.setRunway(true), 0);
    check.tells("open", x, 9, 1);
  }

  private static void runwayLeavesTheWait() {
    check.sentence(5, "(The wait stays.)");
    HoldingStack x = new HoldingStack();
    x.setLap(2);
    x.enter(HEAVY, 900, 0);
    x.pass(1);
    check.tells("landed", x, 8, 4);
    x.setRunway(false);
    check.tells("closed", x, 8, 4);
    x.setRunway(true);
    check.tells("open", x, 8, 4);
  }

  private static void runwayIsRecorded() {
    check.sentence(5, "Recorded.");
    HoldingStack x = new HoldingStack();
    check.recorded(x, "setRunway(true), nothing different", () -> x.setRunway(true), 1);
    check.recorded(x, "setRunway(false)", () -> x.setRunway(false), 1);
    x.setRunway(false);
    check.recorded(x, "setRunway(false), nothing different", () -> x.setRunway(false), 0);
    check.recorded(x, "setRunway(true)", () -> x.setRunway(true), 0);
  }

  // ---- promise 6

  private static void ladderReturnsWhatItWas() {
    check.sentence(6, "Returns 1 if it was, 0 if not.");
    HoldingStack x = new HoldingStack();
    check.due("setLadder(true)", x.setLadder(true), 1);
    check.tells("automatic", x, 10, 1);
    check.due("setLadder(false)", x.setLadder(false), 1);
    check.tells("not automatic", x, 10, 0);
    check.due("setLadder(false) again", x.setLadder(false), 0);
    check.tells("not automatic", x, 10, 0);
    check.due("setLadder(true) again", x.setLadder(true), 0);
    check.tells("automatic", x, 10, 1);
  }

  private static void ladderIsRecorded() {
    check.sentence(6, "Recorded.");
    HoldingStack x = new HoldingStack();
    check.recorded(x, "setLadder(true), nothing different", () -> x.setLadder(true), 1);
    check.recorded(x, "setLadder(false)", () -> x.setLadder(false), 1);
    x.setLadder(false);
    check.recorded(x, "setLadder(false), nothing different", () -> x.setLadder(false), 0);
    check.recorded(x, "setLadder(true)", () -> x.setLadder(true), 0);
  }
}
