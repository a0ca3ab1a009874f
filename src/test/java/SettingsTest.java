/** Promises 1 to 6: a new object, begin, and the settings. */
public final class SettingsTest {
  private static final int BAD_VALUE = HoldingStack.BAD_VALUE;
  private static final Check check = new Check();

  public static void main(String[] args) {
    newObject();
    beginAnswers();
    beginKeepsSettingsAndDropsTheRest();
    lap();
    lapMovesPlaces();
    limit();
    runway();
    ladder();
    check.finish();
  }

  private static void newObject() {
    HoldingStack x = new HoldingStack();
    check.tells("new", x, 0, 0, 10, 4, 0, 0, 0, 0, 0, 0, 1, 1, 16, 0, 0, 0, 0, 0, 0);
    for (int level = 0; level < 10; level++) {
      check.due("new: level(" + level + ")", x.level(level), HoldingStack.NONE);
    }
    check.due("new: level(10)", x.level(10), HoldingStack.BAD_INDEX);
    check.due("new: clearText()", x.clearText(), 0);
    check.due("new: faultPosition()", x.faultPosition(), HoldingStack.NONE);
    check.due("new: undo()", x.undo(), HoldingStack.NOT_POSSIBLE);
    check.due("new: restore(0)", x.restore(0), HoldingStack.NOT_POSSIBLE);
    check.due("new: restore(1)", x.restore(1), HoldingStack.NOT_POSSIBLE);
  }

  private static void beginAnswers() {
    HoldingStack x = new HoldingStack();
    check.due("begin(3)", x.begin(3), BAD_VALUE);
    check.due("begin(17)", x.begin(17), BAD_VALUE);
    check.due("begin(-1)", x.begin(-1), BAD_VALUE);
    check.tells("after bad begins", x, 17, 0);
    check.due("begin(4)", x.begin(4), 10);
    check.recorded("begin(4)", x, 0);
    check.due("level(3) of 4", x.level(3), HoldingStack.NONE);
    check.due("level(4) of 4", x.level(4), HoldingStack.BAD_INDEX);
    check.due("begin(16)", x.begin(16), 4);
    check.due("level(15) of 16", x.level(15), HoldingStack.NONE);
    check.due("begin(16) again", x.begin(16), 16);
    check.recorded("begin(16) again", x, 2);
  }

  private static void beginKeepsSettingsAndDropsTheRest() {
    HoldingStack x = new HoldingStack();
    x.setLap(2);
    x.enter(HoldingStack.HEAVY, 900, 0);
    x.enter(HoldingStack.LIGHT, 41, 5);
    x.enter(HoldingStack.LIGHT, 900, 4);
    x.pass(1);
    x.setRunway(false);
    x.pass(6);
    x.setLadder(false);
    x.setLimit(7);
    x.enter(HoldingStack.LIGHT, 40, 9);
    // In minute 1 aircraft 1 (then 37, short, over the fix) lands before aircraft 0, and 2 goes to level 3.
    check.tells("before begin", x, 0, 7, 10, 2, 3, 2, 1, 0);
    check.tells("before begin", x, 16, 2);
    check.due("begin(6)", x.begin(6), 10);
    check.tells("after begin", x, 0, 0, 6, 2, 0, 0, 0, 0, 0, 0, 0, 0, 7, 0, 0, 0, 0, 0, 5);
    check.due("level(0)", x.level(0), HoldingStack.NONE);
    check.due("aircraft(0, 0)", x.aircraft(0, 0), HoldingStack.BAD_INDEX);
    check.due("the first number", x.enter(HoldingStack.LIGHT, 50, 0), 0);

    HoldingStack z = new HoldingStack();
    z.setRunway(false);
    z.enter(HoldingStack.LIGHT, 41, 3);
    z.enter(HoldingStack.LIGHT, 900, 9);
    z.pass(6);
    z.call(1);
    check.tells("one diverted", z, 15, 17);
    z.begin(10);
    check.tells("none diverted", z, 12, 0, 0, 0, 0);
    z.enter(HoldingStack.LIGHT, 900, 5);
    z.enter(HoldingStack.LIGHT, 900, 4);
    check.tellsAircraft("after begin", z, 0, HoldingStack.LIGHT, 900, 0, 5, 1, 0, 0, HoldingStack.NONE);
    check.tellsAircraft("after begin", z, 1, HoldingStack.LIGHT, 900, 0, 4, 1, 0, 0, HoldingStack.NONE);

    HoldingStack y = new HoldingStack();
    y.setLap(2);
    y.enter(HoldingStack.HEAVY, 900, 0);
    y.pass(1);
    check.tells("before begin", y, 8, 4);
    y.begin(10);
    check.tells("begin ends the wait", y, 8, 0);
    y.undo();
    check.tells("undo of begin", y, 0, 1, 10, 2, 1, 0, 1);
    check.tells("undo of begin", y, 8, 4);
  }

  private static void lap() {
    HoldingStack x = new HoldingStack();
    check.due("setLap(1)", x.setLap(1), BAD_VALUE);
    check.due("setLap(9)", x.setLap(9), BAD_VALUE);
    check.tells("after bad laps", x, 17, 0);
    check.tells("after bad laps", x, 2, 4);
    check.due("setLap(8)", x.setLap(8), 4);
    check.recorded("setLap(8)", x, 0);
    check.due("setLap(2)", x.setLap(2), 8);
    check.due("setLap(2) again", x.setLap(2), 2);
    check.recorded("setLap(2) again", x, 2);
    check.tells("after setLap(2)", x, 2, 2);
  }

  private static void lapMovesPlaces() {
    HoldingStack x = new HoldingStack();
    x.setLap(8);
    x.enter(HoldingStack.LIGHT, 900, 7);
    x.pass(1);
    x.enter(HoldingStack.LIGHT, 900, 5);
    x.pass(1);
    x.enter(HoldingStack.LIGHT, 900, 3);
    check.due("place of 0", x.aircraft(0, 4), 3);
    check.due("place of 1", x.aircraft(1, 4), 2);
    check.due("place of 2", x.aircraft(2, 4), 1);
    x.setLap(4);
    check.due("place 3 in a lap of 4", x.aircraft(0, 4), 3);
    x.setLap(3);
    check.due("place 3 in a lap of 3", x.aircraft(0, 4), 0);
    check.due("place 2 in a lap of 3", x.aircraft(1, 4), 2);
    x.setLap(2);
    check.due("place 2 in a lap of 2", x.aircraft(1, 4), 0);
    check.due("place 1 in a lap of 2", x.aircraft(2, 4), 1);
    x.setLap(8);
    check.due("a longer lap brings no place back", x.aircraft(0, 4), 0);
    x.undo();
    x.undo();
    check.due("place of 1 after undo", x.aircraft(1, 4), 2);
  }

  private static void limit() {
    HoldingStack x = new HoldingStack();
    check.due("setLimit(0)", x.setLimit(0), BAD_VALUE);
    check.due("setLimit(17)", x.setLimit(17), BAD_VALUE);
    check.tells("after bad limits", x, 17, 0);
    check.due("setLimit(1)", x.setLimit(1), 16);
    check.recorded("setLimit(1)", x, 0);
    check.tells("after setLimit(1)", x, 11, 1);
    check.due("setLimit(16)", x.setLimit(16), 1);
    check.due("setLimit(16) again", x.setLimit(16), 16);
    check.recorded("setLimit(16) again", x, 2);
  }

  private static void runway() {
    HoldingStack x = new HoldingStack();
    x.setLap(2);
    x.enter(HoldingStack.HEAVY, 900, 0);
    x.pass(1);
    check.due("setRunway(true)", x.setRunway(true), 1);
    check.recorded("setRunway(true)", x, 3);
    check.due("setRunway(false)", x.setRunway(false), 1);
    check.tells("closed", x, 8, 4, 0);
    check.due("setRunway(false) again", x.setRunway(false), 0);
    check.due("setRunway(true) again", x.setRunway(true), 0);
    check.tells("open", x, 8, 4, 1);
    x.undo();
    check.tells("undo of opening", x, 9, 0);
  }

  private static void ladder() {
    HoldingStack x = new HoldingStack();
    check.due("setLadder(true)", x.setLadder(true), 1);
    check.recorded("setLadder(true)", x, 0);
    check.due("setLadder(false)", x.setLadder(false), 1);
    check.tells("not automatic", x, 10, 0);
    check.due("setLadder(false) again", x.setLadder(false), 0);
    check.due("setLadder(true) again", x.setLadder(true), 0);
    check.tells("automatic", x, 10, 1);
    check.tells("ladder recorded", x, 17, 4);
  }
}
