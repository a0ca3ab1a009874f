/** Promises 10 to 13: level, aircraft, tell and why. */
public final class LookTest {
  private static final int LIGHT = HoldingStack.LIGHT, MEDIUM = HoldingStack.MEDIUM, HEAVY = HoldingStack.HEAVY;
  private static final int BAD_INDEX = HoldingStack.BAD_INDEX, NONE = HoldingStack.NONE;
  private static final Check check = new Check();

  public static void main(String[] args) {
    levels();
    aircraftErrors();
    aircraftNumbers();
    tells();
    whyErrors();
    whyNotHolding();
    whyNotOverTheFix();
    whyRunway();
    whyShort();
    whyTaken();
    whyLadder();
    check.finish();
  }

  private static void levels() {
    HoldingStack x = new HoldingStack();
    x.enter(LIGHT, 900, 9);
    x.enter(LIGHT, 900, 0);
    check.due("level(9)", x.level(9), 0);
    check.due("level(0)", x.level(0), 1);
    check.due("level(4)", x.level(4), NONE);
    check.due("level(-1)", x.level(-1), BAD_INDEX);
    check.due("level(10)", x.level(10), BAD_INDEX);
    check.due("level(MAX)", x.level(Integer.MAX_VALUE), BAD_INDEX);
    check.due("level(MIN)", x.level(Integer.MIN_VALUE), BAD_INDEX);
  }

  private static void aircraftErrors() {
    HoldingStack x = new HoldingStack();
    check.due("none", x.aircraft(0, 0), BAD_INDEX);
    x.enter(LIGHT, 900, 9);
    check.due("-1", x.aircraft(-1, 0), BAD_INDEX);
    check.due("1 of 1", x.aircraft(1, 0), BAD_INDEX);
    check.due("what -1", x.aircraft(0, -1), BAD_INDEX);
    check.due("what 8", x.aircraft(0, 8), BAD_INDEX);
    check.due("what MAX", x.aircraft(0, Integer.MAX_VALUE), BAD_INDEX);
    check.due("aircraft MIN", x.aircraft(Integer.MIN_VALUE, 0), BAD_INDEX);
  }

  private static void aircraftNumbers() {
    HoldingStack x = new HoldingStack();
    x.pass(7);
    x.enter(HEAVY, 230, 9);
    x.enter(MEDIUM, 900, 0);
    check.tellsAircraft("entered", x, 0, HEAVY, 230, 0, 9, 1, 0, 0, NONE);
    x.call(0);
    check.tellsAircraft("called", x, 0, HEAVY, 230, 0, 9, 1, 1, 0, NONE);
    x.pass(1);
    check.tellsAircraft("short", x, 0, HEAVY, 216, 0, 9, 2, 1, 1, NONE);
    x.pass(2);
    check.tellsAircraft("landed, called", x, 0, HEAVY, 188, 1, NONE, NONE, NONE, 1, 9);
    x.pass(4);
    check.tellsAircraft("landed", x, 1, MEDIUM, 837, 1, NONE, NONE, NONE, 0, 13);

    HoldingStack y = new HoldingStack();
    y.enter(MEDIUM, 109, 0);
    y.pass(1);
    check.due("100 is short", y.aircraft(0, 6), 1);
    y.undo();
    y.undo();
    y.enter(MEDIUM, 110, 0);
    y.pass(1);
    check.due("101 is not", y.aircraft(0, 6), 0);
  }

  private static void tells() {
    HoldingStack x = new HoldingStack();
    check.due("tell(-1)", x.tell(-1), BAD_INDEX);
    check.due("tell(18)", x.tell(18), BAD_INDEX);
    check.due("tell(MAX)", x.tell(Integer.MAX_VALUE), BAD_INDEX);
    check.due("tell(MIN)", x.tell(Integer.MIN_VALUE), BAD_INDEX);
    x.begin(12);
    x.setLap(2);
    x.setLimit(5);
    x.enter(LIGHT, 44, 11);
    x.enter(HEAVY, 900, 0);
    x.enter(MEDIUM, 300, 5);
    x.enter(MEDIUM, 300, 7);
    x.enter(LIGHT, 40, 1);
    // Minute 1: 1 lands with 882, 0 goes to 10, 2 to 4, 3 to 6; then it is closed: 0 has 41, 38, 35.
    x.pass(1);
    x.setRunway(false);
    x.setLadder(false);
    x.pass(2);
    check.tells("all", x, 0, 3, 12, 2, 4, 3, 1, 0, 3, 2, 0, 0, 5);
    check.tells("all", x, 12, 1544, 18 + 9 + (8 + 18) + (8 + 16), 882, 0, HoldingStack.SHORT, 5);
    // Five minutes more leave 35 - 15 = 20, the sixth 17.
    x.pass(6);
    check.tells("diverted", x, 3, 4, 2, 1, 1);
    check.tells("diverted", x, 15, 17);
  }

  private static void whyErrors() {
    HoldingStack x = new HoldingStack();
    check.due("none", x.why(0), BAD_INDEX);
    x.enter(LIGHT, 900, 9);
    check.due("-1", x.why(-1), BAD_INDEX);
    check.due("1 of 1", x.why(1), BAD_INDEX);
  }

  private static void whyNotHolding() {
    HoldingStack x = new HoldingStack();
    x.enter(LIGHT, 900, 0);
    x.pass(3);
    check.due("landed", x.why(0), 1);
    x.setRunway(false);
    x.enter(LIGHT, 41, 0);
    x.pass(6);
    check.due("diverted", x.why(1), 1);
  }

  private static void whyNotOverTheFix() {
    HoldingStack x = new HoldingStack();
    x.enter(LIGHT, 900, 0);
    x.enter(LIGHT, 900, 1);
    x.setRunway(false);
    check.due("place 1, level 0", x.why(0), 2);
    check.due("place 1, level 1", x.why(1), 2);
    x.pass(2);
    check.due("place 3", x.why(1), 2);
  }

  private static void whyRunway() {
    HoldingStack x = new HoldingStack();
    x.setRunway(false);
    x.enter(LIGHT, 900, 0);
    x.pass(3);
    check.due("level 0, closed", x.why(0), 3);
    x.setLadder(false);
    check.due("level 0, closed, not automatic", x.why(0), 3);
    x.setRunway(true);
    check.due("level 0, open", x.why(0), 0);

    HoldingStack y = new HoldingStack();
    y.enter(HEAVY, 900, 0);
    y.enter(HEAVY, 900, 1);
    y.pass(3);
    check.due("level 0, a wait of 4", y.why(1), 3);
    y.pass(3);
    y.setLap(2);
    check.tells("wait", y, 8, 1);
    check.due("level 0, over the fix, a wait of 1", y.why(1), 3);
    y.setRunway(false);
    y.pass(2);
    y.setRunway(true);
    check.tells("wait", y, 8, 0);
    check.due("level 0, no wait", y.why(1), 0);
  }

  private static void whyShort() {
    HoldingStack x = new HoldingStack();
    x.setRunway(false);
    x.setLadder(false);
    x.enter(LIGHT, 900, 4);
    x.enter(LIGHT, 50, 5);
    x.pass(3);
    check.due("short, closed, level below taken", x.why(1), 3);
    x.setRunway(true);
    check.due("short, open, level below taken", x.why(1), 0);
    x.begin(10);
    x.enter(LIGHT, 900, 4);
    x.enter(LIGHT, 50, 9);
    x.setRunway(false);
    x.pass(3);
    x.setRunway(true);
    check.due("short, open, not automatic", x.why(1), 0);
  }

  private static void whyTaken() {
    HoldingStack x = new HoldingStack();
    x.setRunway(false);
    x.enter(LIGHT, 900, 0);
    x.enter(LIGHT, 900, 1);
    x.enter(LIGHT, 900, 2);
    x.pass(3);
    check.due("level 1", x.why(1), 4);
    check.due("level 2", x.why(2), 4);
    x.setLadder(false);
    check.due("level 2, not automatic", x.why(2), 4);
    x.setRunway(true);
    check.due("level 2, open", x.why(2), 4);
    x.call(2);
    check.due("level 2, called", x.why(2), 4);

    HoldingStack y = new HoldingStack();
    y.setLadder(false);
    y.enter(LIGHT, 900, 9);
    y.enter(LIGHT, 900, 7);
    y.enter(LIGHT, 900, 6);
    y.pass(3);
    y.setLadder(true);
    check.due("only the second level below is taken", y.why(0), 0);
    check.due("only the next level below is taken", y.why(1), 4);
    check.due("the next level below is free", y.why(2), 0);
  }

  private static void whyLadder() {
    HoldingStack x = new HoldingStack();
    x.setLadder(false);
    x.setRunway(false);
    x.enter(LIGHT, 900, 5);
    x.pass(3);
    check.due("not called", x.why(0), 5);
    x.call(0);
    check.due("called", x.why(0), 0);
    x.undo();
    check.due("not called again", x.why(0), 5);
    x.setLadder(true);
    check.due("automatic", x.why(0), 0);
  }
}
