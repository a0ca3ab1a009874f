/** Promises 10 to 13: level, aircraft, tell and why. Each test bears the words of the document that it tests. */
public final class LookTest {
  private static final int LIGHT = HoldingStack.LIGHT, MEDIUM = HoldingStack.MEDIUM, HEAVY = HoldingStack.HEAVY;
  private static final int HOLDING = HoldingStack.HOLDING, LANDED = HoldingStack.LANDED, DIVERTED = HoldingStack.DIVERTED;
  private static final int BAD_INDEX = HoldingStack.BAD_INDEX, NONE = HoldingStack.NONE;
  private static final int[] RESERVES = {40, 100, 220}, RATES = {4, 9, 18};
  private static final Check check = new Check();

  public static void main(String[] args) {
    levelRange();
    levelReturnsTheAircraftOnIt();
    levelWithoutAircraft();

    aircraftRange();
    aircraftWhatRange();
    kindAndFuel();
    whatItIs();
    levelAndPlace();
    called();
    shortUpToTheReserve();
    timeAtTheBeginningOfThatMinute();
    noneIfItIsNotHolding();
    noneIfItIsHolding();
    badIndexBeforeNone();

    tellRange();
    tellTimeLevelsAndLap();
    tellAircraft();
    tellSteps();
    tellWait();
    tellRunwayAndLadder();
    tellLimit();
    tellFuel();
    tellReason();
    tellHistory();

    whyRange();
    whyNotHolding();
    whyNotOverTheFix();
    whyOnLevelZero();
    whyShort();
    whyWaitAsItIsNow();
    whyLevelBelow();
    whyLadder();
    whyOtherwise();
    whyFirstReason();
    check.finish();
  }

  // ---- promise 10

  private static void levelRange() {
    check.sentence(10, "BAD_INDEX");
    for (int levels : new int[] {4, 10, 16}) {
      HoldingStack x = new HoldingStack();
      x.begin(levels);
      x.enter(LIGHT, 900, levels - 1);
      check.due("the highest of " + levels, x.level(levels - 1), 0);
      for (int bad : new int[] {levels, 16, -1, Integer.MAX_VALUE, Integer.MIN_VALUE}) {
        check.changesNothing(x, "level(" + bad + ") of " + levels, () -> x.level(bad), BAD_INDEX);
      }
    }
  }

  private static void levelReturnsTheAircraftOnIt() {
    check.sentence(10, "Returns the aircraft on it");
    HoldingStack x = new HoldingStack();
    x.enter(LIGHT, 900, 9);
    x.enter(LIGHT, 900, 0);
    check.due("level(9)", x.level(9), 0);
    check.due("level(0)", x.level(0), 1);
    x.pass(3);
    check.due("level(8)", x.level(8), 0);
  }

  private static void levelWithoutAircraft() {
    check.sentence(10, "NONE if there is none");
    HoldingStack x = new HoldingStack();
    x.enter(LIGHT, 900, 9);
    x.enter(LIGHT, 900, 0);
    for (int level = 1; level < 9; level++) {
      check.due("level(" + level + ")", x.level(level), NONE);
    }
    x.pass(3);
    check.due("where one landed", x.level(0), NONE);
    check.due("where one went down", x.level(9), NONE);
    x.setRunway(false);
    x.enter(LIGHT, 41, 4);
    x.pass(6);
    check.due("it diverted", x.aircraft(2, 2), DIVERTED);
    check.due("where it entered", x.level(4), NONE);
    check.due("where it was then", x.level(3), NONE);
  }

  // ---- promise 11

  private static void aircraftRange() {
    check.sentence(11, "`aircraft`: an aircraft");
    HoldingStack x = new HoldingStack();
    check.due("none", x.aircraft(0, 0), BAD_INDEX);
    x.enter(LIGHT, 900, 9);
    for (int bad : new int[] {-1, 1, 19, 20, Integer.MAX_VALUE, Integer.MIN_VALUE}) {
      check.changesNothing(x, "aircraft(" + bad + ", 0)", () -> x.aircraft(bad, 0), BAD_INDEX);
    }
    x.undo();
    check.due("after undo()", x.aircraft(0, 0), BAD_INDEX);
  }

  private static void aircraftWhatRange() {
    check.sentence(11, "`what`: 0 its kind");
    HoldingStack x = new HoldingStack();
    x.enter(MEDIUM, 900, 9);
    for (int bad : new int[] {-1, 8, 20, Integer.MAX_VALUE, Integer.MIN_VALUE}) {
      check.changesNothing(x, "aircraft(0, " + bad + ")", () -> x.aircraft(0, bad), BAD_INDEX);
    }
    check.due("aircraft(0, 0)", x.aircraft(0, 0), MEDIUM);
    check.due("aircraft(0, 7)", x.aircraft(0, 7), NONE);
  }

  private static void kindAndFuel() {
    check.sentence(11, "0 its kind, 1 its fuel");
    for (int kind = 0; kind < 3; kind++) {
      HoldingStack x = new HoldingStack();
      x.enter(kind, 900, 0);
      check.tellsAircraft("entered", x, 0, kind, 900);
      x.pass(2);
      check.tellsAircraft("two minutes later", x, 0, kind, 900 - 2 * RATES[kind]);
      x.pass(1);
      check.tellsAircraft("landed", x, 0, kind, 900 - 3 * RATES[kind]);
    }
  }

  private static void whatItIs() {
    check.sentence(11, "2 what it is");
    HoldingStack x = new HoldingStack();
    x.enter(LIGHT, 900, 0);
    check.due("entered", x.aircraft(0, 2), HOLDING);
    x.pass(3);
    check.due("landed", x.aircraft(0, 2), LANDED);
    x.setRunway(false);
    x.enter(LIGHT, 41, 0);
    x.pass(6);
    check.due("diverted", x.aircraft(1, 2), DIVERTED);
    check.due("landed", x.aircraft(0, 2), LANDED);
  }

  private static void levelAndPlace() {
    check.sentence(11, "3 its level, 4 its place");
    HoldingStack x = new HoldingStack();
    x.enter(LIGHT, 900, 9);
    int[] levels = {9, 9, 9, 8, 8, 8, 8, 7};
    int[] places = {1, 2, 3, 0, 1, 2, 3, 0};
    for (int minute = 0; minute < levels.length; minute++) {
      check.due("level in minute " + minute, x.aircraft(0, 3), levels[minute]);
      check.due("place in minute " + minute, x.aircraft(0, 4), places[minute]);
      x.pass(1);
    }
  }

  private static void called() {
    check.sentence(11, "5 1 if it is called and 0 if not");
    HoldingStack x = new HoldingStack();
    x.enter(LIGHT, 900, 9);
    x.enter(LIGHT, 900, 7);
    check.due("not called", x.aircraft(0, 5), 0);
    x.call(0);
    check.due("called", x.aircraft(0, 5), 1);
    check.due("the other one", x.aircraft(1, 5), 0);
    x.pass(2);
    check.due("called, two minutes later", x.aircraft(0, 5), 1);
    x.pass(1);
    check.due("a step down", x.aircraft(0, 5), 0);
  }

  private static void shortUpToTheReserve() {
    check.sentence(11, "6 1 if it is short and 0 if not");
    for (int kind = 0; kind < 3; kind++) {
      for (int more = -1; more < 2; more++) {
        HoldingStack x = new HoldingStack();
        x.enter(kind, RESERVES[kind] + RATES[kind] + more, 0);
        check.due("entered, kind " + kind, x.aircraft(0, 6), 0);
        x.pass(1);
        check.due("reserve and " + more + ", kind " + kind, x.aircraft(0, 6), more > 0 ? 0 : 1);
      }
    }
  }

  private static void timeAtTheBeginningOfThatMinute() {
    check.sentence(11, "7 the time at which it landed or diverted (the time at the beginning of that minute)");
    HoldingStack x = new HoldingStack();
    x.setLap(2);
    x.enter(LIGHT, 900, 0);
    x.pass(1);
    check.due("landed in the first minute", x.aircraft(0, 7), 0);
    x.setRunway(false);
    x.enter(LIGHT, 41, 4);
    x.pass(6);
    check.due("diverted in the seventh", x.aircraft(1, 7), 6);
    x.pass(93);
    x.enter(LIGHT, 900, 0);
    x.setRunway(true);
    x.pass(9);
    check.due("landed in the hundred and first", x.aircraft(2, 7), 100);
    check.due("that of the first stays", x.aircraft(0, 7), 0);
    check.due("that of the second stays", x.aircraft(1, 7), 6);
  }

  private static void noneIfItIsNotHolding() {
    check.sentence(11, "NONE for 3 to 5 if it is not HOLDING");
    HoldingStack x = new HoldingStack();
    x.setLap(2);
    x.enter(HEAVY, 238, 9);
    x.call(0);
    x.pass(1);
    // 14 less a minute: 224, not short, and a step down to level 8 (15 a minute), where the next lap leaves 194.
    x.call(0);
    x.pass(2);
    check.tellsAircraft("landed, called", x, 0, HEAVY, 194, LANDED, NONE, NONE, NONE, 1, 2);
    x.setRunway(false);
    x.setLadder(false);
    x.enter(LIGHT, 41, 5);
    x.call(1);
    x.setLap(8);
    x.pass(6);
    check.tellsAircraft("diverted, called", x, 1, LIGHT, 17, DIVERTED, NONE, NONE, NONE, 1, 8);
  }

  private static void noneIfItIsHolding() {
    check.sentence(11, "and for 7 if it is");
    HoldingStack x = new HoldingStack();
    x.enter(LIGHT, 900, 0);
    check.due("entered", x.aircraft(0, 7), NONE);
    x.pass(2);
    check.due("two minutes later", x.aircraft(0, 7), NONE);
    x.pass(1);
    check.due("landed", x.aircraft(0, 7), 2);
    x.undo();
    check.due("not landed, after undo()", x.aircraft(0, 7), NONE);
  }

  private static void badIndexBeforeNone() {
    check.sentence(11, "NONE is not an error and is returned only if no error applies.");
    HoldingStack x = new HoldingStack();
    x.enter(LIGHT, 900, 0);
    check.due("aircraft(1, 7)", x.aircraft(1, 7), BAD_INDEX);
    x.pass(3);
    check.due("landed", x.aircraft(0, 3), NONE);
    check.due("aircraft(1, 3)", x.aircraft(1, 3), BAD_INDEX);
    check.due("aircraft(-1, 4)", x.aircraft(-1, 4), BAD_INDEX);
    check.due("aircraft(0, 8)", x.aircraft(0, 8), BAD_INDEX);
    check.due("aircraft(0, -1)", x.aircraft(0, -1), BAD_INDEX);
  }

  // ---- promise 12

  private static void tellRange() {
    check.sentence(12, "BAD_INDEX");
    HoldingStack x = new HoldingStack();
    for (int bad : new int[] {-1, 18, 19, Integer.MAX_VALUE, Integer.MIN_VALUE}) {
      check.changesNothing(x, "tell(" + bad + ")", () -> x.tell(bad), BAD_INDEX);
    }
    check.due("tell(0)", x.tell(0), 0);
    check.due("tell(17)", x.tell(17), 0);
  }

  private static void tellTimeLevelsAndLap() {
    check.sentence(12, "0 the time, 1 the levels, 2 the lap");
    HoldingStack x = new HoldingStack();
    x.begin(13);
    x.setLap(7);
    x.pass(42);
    check.tells("set", x, 0, 42, 13, 7);
  }

  private static void tellAircraft() {
    check.sentence(12, "3 the number of aircraft, 4 of those that are HOLDING, 5 that LANDED, 6 that DIVERTED");
    HoldingStack x = new HoldingStack();
    x.setLap(2);
    for (int level = 0; level < 10; level++) {
      x.enter(LIGHT, level < 7 ? 900 : 75, level);
    }
    check.tells("entered", x, 3, 10, 10, 0, 0);
    // In the minutes 1, 3, 5 and 7 the lowest land, in 9 one of the others, which are short then; two divert.
    x.pass(9);
    check.tells("nine minutes later", x, 3, 10, 5, 5, 0);
    x.setRunway(false);
    x.pass(6);
    check.tells("fifteen minutes later", x, 3, 10, 3, 5, 2);
  }

  private static void tellSteps() {
    check.sentence(12, "7 the steps");
    HoldingStack x = new HoldingStack();
    x.enter(LIGHT, 900, 9);
    x.enter(LIGHT, 900, 5);
    x.pass(2);
    check.tells("two minutes", x, 7, 0);
    x.pass(1);
    check.tells("three minutes", x, 7, 2);
    x.pass(4);
    check.tells("seven minutes", x, 7, 4);
  }

  private static void tellWait() {
    check.sentence(12, "8 the wait");
    HoldingStack x = new HoldingStack();
    x.enter(MEDIUM, 900, 0);
    x.pass(2);
    check.tells("before it lands", x, 8, 0);
    x.pass(1);
    check.tells("landed", x, 8, 3);
    x.pass(1);
    check.tells("a minute later", x, 8, 2);
  }

  private static void tellRunwayAndLadder() {
    check.sentence(12, "9 1 if the runway is open and 0 if not, 10 1 if the ladder is automatic and 0 if not");
    HoldingStack x = new HoldingStack();
    check.tells("at first", x, 9, 1, 1);
    x.setLadder(false);
    check.tells("open, not automatic", x, 9, 1, 0);
    x.setRunway(false);
    check.tells("closed, not automatic", x, 9, 0, 0);
    x.setLadder(true);
    check.tells("closed, automatic", x, 9, 0, 1);
  }

  private static void tellLimit() {
    check.sentence(12, "11 the limit");
    HoldingStack x = new HoldingStack();
    x.setLimit(5);
    check.tells("set", x, 11, 5);
  }

  private static void tellFuel() {
    check.sentence(12, "12 the fuel with which aircraft entered, 13 the fuel that was burned, 14 the fuel with which aircraft landed, "
        + "15 with which they diverted");
    HoldingStack x = new HoldingStack();
    x.setLap(2);
    x.enter(HEAVY, 900, 0);
    x.enter(MEDIUM, 300, 5);
    x.enter(LIGHT, 60, 9);
    x.enter(LIGHT, 40, 8);
    check.tells("entered, one refused", x, 12, 1260, 0, 0, 0);
    x.pass(1);
    // The medium one burns 8 on level 5, then 9 on level 4.
    check.tells("minute 1, the heavy one landed", x, 12, 1260, 18 + 8 + 4, 882, 0);
    x.setRunway(false);
    x.pass(9);
    check.tells("minute 10, 20 left", x, 12, 1260, 18 + 8 + 9 * 9 + 40, 882, 0);
    x.pass(1);
    check.tells("minute 11, 16 left", x, 12, 1260, 18 + 8 + 10 * 9 + 44, 882, 16);
    x.enter(LIGHT, 41, 9);
    x.pass(6);
    check.tells("minute 17, another one diverted", x, 12, 1301, 18 + 8 + 16 * 9 + 44 + 24, 882, 16 + 17);
    x.setRunway(true);
    x.pass(2);
    // It is over the fix in the odd minutes, on level 0 since minute 9, and has burned 8 + 18 * 9 = 170 of 300.
    check.tells("minute 19, the medium one landed", x, 12, 1301, 18 + 170 + 44 + 24, 882 + 130, 16 + 17);
  }

  private static void tellReason() {
    check.sentence(12, "16 the reason of the latest try to enter");
    HoldingStack x = new HoldingStack();
    x.enter(LIGHT, 900, 9);
    check.tells("entered", x, 16, 0);
    x.enter(LIGHT, 900, 9);
    check.tells("taken", x, 16, HoldingStack.TAKEN);
    x.enter(LIGHT, 40, 8);
    check.tells("short", x, 16, HoldingStack.SHORT);
    x.setLimit(1);
    x.enter(LIGHT, 41, 8);
    check.tells("crowded", x, 16, HoldingStack.CROWDED);
    x.bestLevel(LIGHT, 40);
    check.tells("a question is no try", x, 16, HoldingStack.CROWDED);
    x.setLimit(2);
    x.enter(LIGHT, 41, 8);
    check.tells("entered", x, 16, 0);
  }

  private static void tellHistory() {
    check.sentence(12, "17 the number of states in the history");
    HoldingStack x = new HoldingStack();
    int[] states = {0, 1, 2, 3, 4, 5, 5, 5};
    for (int want : states) {
      check.tells("recorded", x, 17, want);
      x.setLimit(7);
    }
    x.undo();
    check.tells("undone", x, 17, 4);
  }

  // ---- promise 13

  private static void whyRange() {
    check.sentence(13, "BAD_INDEX");
    HoldingStack x = new HoldingStack();
    check.due("none", x.why(0), BAD_INDEX);
    x.enter(LIGHT, 900, 9);
    for (int bad : new int[] {-1, 1, 19, 20, Integer.MAX_VALUE, Integer.MIN_VALUE}) {
      check.changesNothing(x, "why(" + bad + ")", () -> x.why(bad), BAD_INDEX);
    }
  }

  private static void whyNotHolding() {
    check.sentence(13, "Returns 1 if it is not HOLDING");
    HoldingStack x = new HoldingStack();
    x.enter(LIGHT, 900, 0);
    x.pass(3);
    check.due("landed", x.why(0), 1);
    x.setRunway(false);
    x.enter(LIGHT, 41, 0);
    x.pass(6);
    check.due("diverted", x.why(1), 1);
  }

  private static void whyNotOverTheFix() {
    check.sentence(13, "2 if it is not over the fix");
    HoldingStack x = new HoldingStack();
    x.setLap(8);
    x.setRunway(false);
    x.enter(LIGHT, 900, 0);
    x.enter(LIGHT, 900, 5);
    for (int place = 1; place < 8; place++) {
      check.due("level 0, place " + place, x.why(0), 2);
      check.due("level 5, place " + place, x.why(1), 2);
      x.pass(1);
    }
    check.due("level 0, place 0", x.why(0), 3);
    check.due("level 4, place 0", x.why(1), 0);

    HoldingStack y = new HoldingStack();
    y.setLap(8);
    y.enter(LIGHT, 41, 0);
    y.enter(LIGHT, 41, 9);
    y.call(1);
    y.pass(1);
    check.due("short, level 0, open", y.why(0), 2);
    check.due("short, level 9, called, open", y.why(1), 2);
    y.setRunway(false);
    y.setLadder(false);
    check.due("short, level 0, closed", y.why(0), 2);
    check.due("short, level 9, called, closed", y.why(1), 2);
  }

  private static void whyOnLevelZero() {
    check.sentence(13, "3 if it is on level 0 or short, and the runway is closed or the wait (as it is now) is above 0");
    HoldingStack x = new HoldingStack();
    x.setRunway(false);
    x.enter(LIGHT, 900, 0);
    x.pass(3);
    check.due("closed", x.why(0), 3);
    x.setLadder(false);
    check.due("closed, ladder not automatic", x.why(0), 3);
    x.setRunway(true);
    check.due("open", x.why(0), 0);
  }

  private static void whyShort() {
    check.sentence(13, "3 if it is on level 0 or short, and the runway is closed");
    HoldingStack x = new HoldingStack();
    x.setRunway(false);
    x.setLadder(false);
    // After three minutes 40 and 41 are left.
    x.enter(LIGHT, 52, 5);
    x.enter(LIGHT, 53, 7);
    x.pass(3);
    check.due("just the reserve, closed", x.why(0), 3);
    check.due("one more, closed", x.why(1), 5);
    x.setRunway(true);
    check.due("just the reserve, open", x.why(0), 0);
    check.due("one more, open", x.why(1), 5);
  }

  private static void whyWaitAsItIsNow() {
    check.sentence(13, "the wait (as it is now) is above 0");
    HoldingStack x = new HoldingStack();
    x.setLap(2);
    x.enter(HEAVY, 900, 0);
    x.enter(LIGHT, 900, 1);
    x.pass(1);
    check.due("level 0, a wait of 4", x.why(1), 3);
    x.setLap(3);
    x.pass(3);
    check.tells("level 0", x, 8, 1);
    check.due("level 0, a wait of 1", x.why(1), 3);
    x.setRunway(false);
    x.pass(3);
    x.setRunway(true);
    check.tells("level 0", x, 8, 0);
    check.due("level 0, no wait", x.why(1), 0);

    HoldingStack y = new HoldingStack();
    y.setLadder(false);
    y.enter(LIGHT, 50, 5);
    y.enter(LIGHT, 52, 7);
    y.pass(3);
    check.due("the first one landed", y.aircraft(0, 2), LANDED);
    check.due("short, a wait of 2", y.why(1), 3);
  }

  private static void whyLevelBelow() {
    check.sentence(13, "4 if it is not on level 0, not short, and the level below is not free");
    HoldingStack x = new HoldingStack();
    x.setRunway(false);
    x.enter(LIGHT, 900, 0);
    x.enter(LIGHT, 900, 1);
    x.enter(LIGHT, 900, 2);
    x.enter(LIGHT, 50, 3);
    x.pass(3);
    check.due("level 1", x.why(1), 4);
    check.due("level 2", x.why(2), 4);
    check.due("level 3, short, closed", x.why(3), 3);
    x.setRunway(true);
    check.due("level 1, open", x.why(1), 4);
    check.due("level 3, short, open", x.why(3), 0);

    HoldingStack y = new HoldingStack();
    y.setLadder(false);
    y.enter(LIGHT, 900, 9);
    y.enter(LIGHT, 900, 7);
    y.enter(LIGHT, 900, 6);
    y.pass(3);
    y.setLadder(true);
    check.due("only the second level below is taken", y.why(0), 0);
    check.due("the level below is taken", y.why(1), 4);
    check.due("only levels above are taken", y.why(2), 0);
  }

  private static void whyLadder() {
    check.sentence(13, "5 if it is not on level 0, not short, not called, and the ladder is not automatic");
    HoldingStack x = new HoldingStack();
    x.setLadder(false);
    x.enter(LIGHT, 900, 5);
    x.enter(LIGHT, 900, 0);
    x.enter(LIGHT, 51, 9);
    x.setRunway(false);
    x.pass(3);
    x.setRunway(true);
    check.due("not called", x.why(0), 5);
    check.due("on level 0", x.why(1), 0);
    check.due("short", x.why(2), 0);
    check.due("call(0)", x.call(0), 5);
    check.due("called", x.why(0), 0);
    x.undo();
    x.setLadder(true);
    check.due("automatic", x.why(0), 0);
  }

  private static void whyOtherwise() {
    check.sentence(13, "otherwise 0");
    HoldingStack x = new HoldingStack();
    x.setRunway(false);
    x.enter(LIGHT, 900, 0);
    x.enter(LIGHT, 900, 5);
    x.pass(3);
    x.setRunway(true);
    check.due("on level 0", x.why(0), 0);
    check.due("on level 4, closed or not", x.why(1), 0);
    x.setRunway(false);
    check.due("on level 4, closed or not", x.why(1), 0);
  }

  private static void whyFirstReason() {
    check.sentence(13, "the first reason of these that applies");
    HoldingStack x = new HoldingStack();
    x.enter(LIGHT, 900, 4);
    x.enter(LIGHT, 900, 5);
    x.enter(LIGHT, 900, 0);
    x.pass(1);
    x.setRunway(false);
    x.setLadder(false);
    check.due("2 before 4 and 5", x.why(1), 2);
    check.due("2 before 3", x.why(2), 2);
    x.pass(2);
    check.due("4 before 5", x.why(1), 4);
    check.due("5", x.why(0), 5);
    x.call(1);
    check.due("4, called", x.why(1), 4);
    x.setLadder(true);
    check.due("4, automatic", x.why(1), 4);

    HoldingStack y = new HoldingStack();
    y.setLap(2);
    y.enter(LIGHT, 900, 0);
    y.pass(1);
    y.setLadder(false);
    check.due("1 before 2, 3 and 5", y.why(0), 1);
    y.setRunway(false);
    check.due("1 before 2, 3 and 5", y.why(0), 1);
  }
}
