/** Promises 7 and 8: entering, and the call down the ladder. */
public final class EnterTest {
  private static final int LIGHT = HoldingStack.LIGHT, MEDIUM = HoldingStack.MEDIUM, HEAVY = HoldingStack.HEAVY;
  private static final int BAD_INDEX = HoldingStack.BAD_INDEX, BAD_VALUE = HoldingStack.BAD_VALUE;
  private static final int REFUSED = HoldingStack.REFUSED, NOT_POSSIBLE = HoldingStack.NOT_POSSIBLE;
  private static final Check check = new Check();

  public static void main(String[] args) {
    enters();
    errorsInOrder();
    errorsKeepTheReason();
    shortEdges();
    reasonsInOrder();
    crowded();
    refusedIsNotRecorded();
    full();
    callAnswers();
    callErrors();
    callLeadsDownOneLevel();
    check.finish();
  }

  private static void enters() {
    HoldingStack x = new HoldingStack();
    check.due("first", x.enter(HEAVY, 500, 9), 0);
    check.recorded("first", x, 0);
    check.due("second", x.enter(LIGHT, 9999, 0), 1);
    check.due("third", x.enter(MEDIUM, 300, 4), 2);
    check.tellsAircraft("entered", x, 0, HEAVY, 500, HoldingStack.HOLDING, 9, 1, 0, 0, HoldingStack.NONE);
    check.tellsAircraft("entered", x, 1, LIGHT, 9999, HoldingStack.HOLDING, 0, 1, 0, 0, HoldingStack.NONE);
    check.tellsAircraft("entered", x, 2, MEDIUM, 300, HoldingStack.HOLDING, 4, 1, 0, 0, HoldingStack.NONE);
    check.tells("entered", x, 3, 3, 3, 0, 0);
    check.tells("entered", x, 12, 10799, 0, 0, 0, 0, 3);
    x.undo();
    check.tells("undo of the third", x, 3, 2);
    check.due("level(4)", x.level(4), HoldingStack.NONE);
    check.due("the number is given again", x.enter(LIGHT, 60, 4), 2);
    check.tellsAircraft("in its place", x, 2, LIGHT, 60, HoldingStack.HOLDING, 4, 1, 0, 0, HoldingStack.NONE);
  }

  private static void errorsInOrder() {
    HoldingStack x = new HoldingStack();
    check.due("kind -1", x.enter(-1, 500, 0), BAD_INDEX);
    check.due("kind 3", x.enter(3, 500, 0), BAD_INDEX);
    check.due("level -1", x.enter(LIGHT, 500, -1), BAD_INDEX);
    check.due("level 10 of 10", x.enter(LIGHT, 500, 10), BAD_INDEX);
    check.due("bad kind and fuel", x.enter(3, 0, 0), BAD_INDEX);
    check.due("bad level and fuel", x.enter(LIGHT, 0, 10), BAD_INDEX);
    check.due("fuel 0", x.enter(LIGHT, 0, 0), BAD_VALUE);
    check.due("fuel 10000", x.enter(LIGHT, 10000, 0), BAD_VALUE);
    check.due("fuel -5", x.enter(LIGHT, -5, 0), BAD_VALUE);
    check.due("fuel 1", x.enter(LIGHT, 1, 0), REFUSED);
    check.tells("nothing is recorded", x, 17, 0);
    check.tells("nothing entered", x, 3, 0);
    x.begin(16);
    check.due("level 15 of 16", x.enter(LIGHT, 500, 15), 0);
    check.due("bad fuel on a taken level", x.enter(LIGHT, 0, 15), BAD_VALUE);
  }

  private static void errorsKeepTheReason() {
    HoldingStack x = new HoldingStack();
    x.enter(LIGHT, 500, 2);
    check.due("on a taken level", x.enter(LIGHT, 500, 2), REFUSED);
    x.enter(7, 500, 3);
    check.tells("after BAD_INDEX", x, 16, HoldingStack.TAKEN);
    x.enter(LIGHT, 0, 3);
    check.tells("after BAD_VALUE", x, 16, HoldingStack.TAKEN);
    x.enter(LIGHT, 500, 3);
    check.tells("after it entered", x, 16, 0);
  }

  private static void shortEdges() {
    HoldingStack x = new HoldingStack();
    int[] reserves = {40, 100, 220};
    for (int kind = 0; kind < 3; kind++) {
      check.due("fuel of the reserve, kind " + kind, x.enter(kind, reserves[kind], kind), REFUSED);
      check.tells("the reserve", x, 16, HoldingStack.SHORT);
      check.due("one more, kind " + kind, x.enter(kind, reserves[kind] + 1, kind), kind);
      check.tells("one more", x, 16, 0);
    }
  }

  private static void reasonsInOrder() {
    HoldingStack x = new HoldingStack();
    x.setLimit(1);
    x.enter(HEAVY, 900, 3);
    check.due("taken, short and crowded", x.enter(LIGHT, 40, 3), REFUSED);
    check.tells("taken, short and crowded", x, 16, HoldingStack.TAKEN);
    check.due("short and crowded", x.enter(LIGHT, 40, 4), REFUSED);
    check.tells("short and crowded", x, 16, HoldingStack.SHORT);
    check.due("crowded", x.enter(LIGHT, 41, 4), REFUSED);
    check.tells("crowded", x, 16, HoldingStack.CROWDED);
  }

  private static void crowded() {
    HoldingStack x = new HoldingStack();
    x.setLimit(3);
    x.enter(LIGHT, 900, 0);
    x.enter(LIGHT, 900, 1);
    check.due("one below the limit", x.enter(LIGHT, 900, 2), 2);
    check.due("at the limit", x.enter(LIGHT, 900, 3), REFUSED);
    x.setLimit(2);
    check.due("above the limit", x.enter(LIGHT, 900, 3), REFUSED);
    check.tells("above the limit", x, 16, HoldingStack.CROWDED);
    x.setLimit(3);
    x.pass(3);
    check.tells("one has landed", x, 3, 3, 2, 1);
    check.due("landed ones leave room", x.enter(LIGHT, 900, 3), 3);
  }

  private static void refusedIsNotRecorded() {
    HoldingStack x = new HoldingStack();
    x.enter(LIGHT, 900, 0);
    check.due("refused", x.enter(LIGHT, 900, 0), REFUSED);
    check.tells("refused", x, 16, HoldingStack.TAKEN, 1);
    check.tells("refused", x, 3, 1);
    check.tells("refused", x, 12, 900);
    check.due("entered", x.enter(LIGHT, 900, 1), 1);
    check.tells("entered", x, 16, 0, 2);
    x.undo();
    check.tells("undo brings the reason back", x, 16, HoldingStack.TAKEN, 1);
    x.undo();
    check.tells("undo brings the reason back", x, 16, 0, 0);
  }

  private static void full() {
    HoldingStack x = new HoldingStack();
    x.begin(16);
    x.setLap(2);
    for (int level = 0; level < 16; level++) {
      check.due("enter " + level, x.enter(LIGHT, 5000, level), level);
    }
    check.due("one lands in each of the minutes 1, 3, 5 and 7", x.pass(7), 4);
    check.tells("four have left", x, 3, 16, 12, 4);
    int number = 16;
    for (int level = 15; level > 11; level--) {
      check.due("enter " + number, x.enter(LIGHT, 5000, level), number);
      number++;
    }
    check.due("the 21st", x.enter(LIGHT, 5000, 0), HoldingStack.FULL);
    check.due("the 21st, on a taken level", x.enter(LIGHT, 5000, 15), HoldingStack.FULL);
    check.due("the 21st, bad fuel", x.enter(LIGHT, 0, 15), BAD_VALUE);
    check.due("the 21st, bad level", x.enter(LIGHT, 500, 16), BAD_INDEX);
    check.due("the 21st, short", x.enter(LIGHT, 5, 15), HoldingStack.FULL);
    check.tells("FULL sets no reason", x, 16, 0);
    check.tells("20 aircraft", x, 3, 20, 16, 4);
  }

  private static void callAnswers() {
    HoldingStack x = new HoldingStack();
    x.enter(LIGHT, 900, 9);
    x.enter(MEDIUM, 900, 1);
    check.due("call(0)", x.call(0), 9);
    check.recorded("call(0)", x, 2);
    check.due("0 is called", x.aircraft(0, 5), 1);
    check.due("1 is not", x.aircraft(1, 5), 0);
    check.due("call(1)", x.call(1), 1);
    check.due("call(0) again", x.call(0), NOT_POSSIBLE);
    check.tells("errors are not recorded", x, 17, 4);
    x.undo();
    check.due("undo of the call", x.aircraft(1, 5), 0);
  }

  private static void callErrors() {
    HoldingStack x = new HoldingStack();
    check.due("call(0) of none", x.call(0), BAD_INDEX);
    x.enter(LIGHT, 900, 0);
    x.enter(LIGHT, 44, 9);
    check.due("call(-1)", x.call(-1), BAD_INDEX);
    check.due("call(2) of 2", x.call(2), BAD_INDEX);
    check.due("call on level 0", x.call(0), NOT_POSSIBLE);
    x.pass(3);
    check.due("1 is LANDED", x.aircraft(1, 2), HoldingStack.LANDED);
    check.due("call of a landed one", x.call(1), NOT_POSSIBLE);
    x.setRunway(false);
    x.enter(LIGHT, 44, 8);
    x.pass(7);
    check.due("2 is DIVERTED", x.aircraft(2, 2), HoldingStack.DIVERTED);
    check.due("call of a diverted one", x.call(2), NOT_POSSIBLE);
  }

  private static void callLeadsDownOneLevel() {
    HoldingStack x = new HoldingStack();
    x.setLadder(false);
    x.enter(LIGHT, 900, 5);
    x.enter(LIGHT, 900, 8);
    x.enter(LIGHT, 900, 7);
    x.call(0);
    x.call(1);
    x.pass(2);
    check.due("not over the fix yet", x.aircraft(0, 3), 5);
    x.pass(1);
    check.tellsAircraft("called", x, 0, LIGHT, 888, 0, 4, 0, 0, 0, HoldingStack.NONE);
    check.tellsAircraft("called, level below taken", x, 1, LIGHT, 888, 0, 8, 0, 1, 0, HoldingStack.NONE);
    check.tellsAircraft("not called", x, 2, LIGHT, 888, 0, 7, 0, 0, 0, HoldingStack.NONE);
    check.tells("one step", x, 7, 1);
    x.pass(4);
    check.due("it is not called any more", x.aircraft(0, 3), 4);
    x.setLadder(true);
    check.due("call(0)", x.call(0), 4);
    x.pass(4);
    check.due("a step ends the call, also of an automatic ladder", x.aircraft(0, 5), 0);
    check.due("0 went down", x.aircraft(0, 3), 3);
    check.due("1 went down behind 2", x.aircraft(1, 3), 7);
    check.due("the call of 1 ended", x.aircraft(1, 5), 0);
    check.tells("steps", x, 7, 4);
  }
}
