/** Promises 23 to 26: undo, keep, restore and checksum. */
public final class StatesTest {
  private static final int LIGHT = HoldingStack.LIGHT, MEDIUM = HoldingStack.MEDIUM, HEAVY = HoldingStack.HEAVY;
  private static final int BAD_INDEX = HoldingStack.BAD_INDEX, NOT_POSSIBLE = HoldingStack.NOT_POSSIBLE;
  private static final Check check = new Check();

  public static void main(String[] args) {
    undoStepByStep();
    historyOfFive();
    undoBringsAllBack();
    errorsAreNotRecorded();
    keepAndRestore();
    restoreBringsTheTimesBack();
    slotsAreNoPartOfTheState();
    restoreIsRecorded();
    checksum();
    check.finish();
  }

  private static void undoStepByStep() {
    HoldingStack x = new HoldingStack();
    check.due("undo of nothing", x.undo(), NOT_POSSIBLE);
    x.pass(1);
    x.pass(2);
    x.pass(4);
    check.tells("three", x, 17, 3);
    check.due("undo", x.undo(), 2);
    check.tells("undo", x, 0, 3);
    check.tells("undo", x, 17, 2);
    x.pass(8);
    check.tells("and on", x, 0, 11);
    check.due("undo", x.undo(), 2);
    check.tells("undo", x, 0, 3);
    check.due("undo", x.undo(), 1);
    check.tells("undo", x, 0, 1);
    check.due("undo", x.undo(), 0);
    check.tells("undo", x, 0, 0);
    check.due("undo of nothing", x.undo(), NOT_POSSIBLE);
    check.tells("undo of nothing", x, 0, 0);
  }

  private static void historyOfFive() {
    HoldingStack x = new HoldingStack();
    for (int minute = 1; minute <= 13; minute++) {
      x.pass(1);
      check.tells("states", x, 17, Math.min(5, minute));
    }
    for (int left = 4; left >= 0; left--) {
      check.due("undo", x.undo(), left);
      check.tells("undo", x, 0, 8 + left);
    }
    check.due("the older ones were dropped", x.undo(), NOT_POSSIBLE);
    check.tells("undo", x, 0, 8);
  }

  private static HoldingStack busyStack() {
    HoldingStack x = new HoldingStack();
    x.begin(12);
    x.setLap(3);
    x.setLimit(6);
    x.enter(LIGHT, 44, 11);
    x.enter(HEAVY, 900, 0);
    x.enter(MEDIUM, 300, 5);
    x.enter(MEDIUM, 109, 7);
    x.pass(2);
    x.setRunway(false);
    x.setLadder(false);
    x.call(2);
    x.enter(LIGHT, 40, 1);
    return x;
  }

  private static void undoBringsAllBack() {
    HoldingStack x = busyStack();
    for (int change = 0; change < 9; change++) {
      String text = answers(x);
      long sum = checksumOf(x);
      switch (change) {
        case 0: x.begin(5); break;
        case 1: x.setLap(2); break;
        case 2: x.setLimit(1); break;
        case 3: x.setRunway(true); break;
        case 4: x.setLadder(true); break;
        case 5: x.enter(LIGHT, 50, 2); break;
        case 6: x.call(3); break;
        case 7: x.pass(40); break;
        default: Check.write(x, "o;t9;+l99@9;"); x.run(); break;
      }
      check.due("change " + change + " is seen", checksumOf(x) == sum ? 1 : 0, 0);
      x.undo();
      check.due("change " + change + " is undone", answers(x).equals(text) ? 1 : 0, 1);
      // The history is one state shorter after the first time, for it was full.
      check.tells("change " + change, x, 17, 4);
      if (change == 0) {
        continue;
      }
      check.due("checksum after undo of " + change, checksumOf(x), sum);
    }
  }

  /** All answers about the state, without the number of states in the history. */
  private static String answers(HoldingStack x) {
    StringBuilder all = new StringBuilder();
    for (int what = 0; what < 17; what++) {
      all.append(x.tell(what)).append(' ');
    }
    for (int aircraft = 0; aircraft < x.tell(3); aircraft++) {
      for (int what = 0; what < 8; what++) {
        all.append(x.aircraft(aircraft, what)).append(' ');
      }
      all.append(x.why(aircraft)).append(' ').append(x.minutesLeft(aircraft)).append(' ');
    }
    for (int level = 0; level < x.tell(1); level++) {
      all.append(x.level(level)).append(' ');
    }
    return all.toString();
  }

  private static void errorsAreNotRecorded() {
    HoldingStack x = new HoldingStack();
    x.begin(3);
    x.setLap(1);
    x.setLimit(0);
    x.enter(5, 500, 0);
    x.enter(LIGHT, 0, 0);
    x.enter(LIGHT, 40, 0);
    x.call(0);
    x.pass(0);
    x.append(5);
    x.undo();
    x.keep(2);
    x.restore(0);
    x.restore(2);
    x.keep(0);
    x.clearText();
    Check.write(x, "q");
    x.run();
    check.tells("no call was recorded", x, 17, 0);
  }

  private static void keepAndRestore() {
    HoldingStack x = busyStack();
    check.due("keep(-1)", x.keep(-1), BAD_INDEX);
    check.due("keep(2)", x.keep(2), BAD_INDEX);
    check.due("restore(-1)", x.restore(-1), BAD_INDEX);
    check.due("restore(2)", x.restore(2), BAD_INDEX);
    check.due("restore(0), empty", x.restore(0), NOT_POSSIBLE);
    check.due("restore(1), empty", x.restore(1), NOT_POSSIBLE);
    check.due("keep(0)", x.keep(0), 2);
    String kept = answers(x);
    check.tells("keep is not recorded", x, 17, 5);
    check.due("restore(1), still empty", x.restore(1), NOT_POSSIBLE);
    x.begin(5);
    x.setLap(7);
    x.setLimit(2);
    x.pass(9);
    x.enter(HEAVY, 700, 4);
    check.due("keep(1)", x.keep(1), 9);
    String other = answers(x);
    check.due("restore(0)", x.restore(0), 2);
    check.due("all is back", answers(x).equals(kept) ? 1 : 0, 1);
    x.pass(30);
    check.due("restore(1)", x.restore(1), 9);
    check.due("all of slot 1 is back", answers(x).equals(other) ? 1 : 0, 1);
    check.due("restore(0) again: the slot keeps it", x.restore(0), 2);
    check.due("all is back again", answers(x).equals(kept) ? 1 : 0, 1);
    x.pass(5);
    check.due("keep(0) in place of it", x.keep(0), 7);
    x.pass(1);
    check.due("restore(0) of the new one", x.restore(0), 7);
    check.due("slot 1 stays", x.restore(1), 9);
  }

  private static void restoreBringsTheTimesBack() {
    HoldingStack x = new HoldingStack();
    x.enter(LIGHT, 900, 0);
    x.pass(3);
    x.keep(0);
    x.begin(10);
    x.pass(50);
    x.enter(LIGHT, 900, 0);
    x.pass(3);
    check.due("landed late", x.aircraft(0, 7), 52);
    x.restore(0);
    check.due("landed early", x.aircraft(0, 7), 2);
    x.undo();
    check.due("landed late again", x.aircraft(0, 7), 52);
  }

  private static void slotsAreNoPartOfTheState() {
    HoldingStack x = new HoldingStack();
    x.pass(3);
    x.keep(0);
    x.undo();
    check.due("the slot is kept over undo", x.restore(0), 3);
    x.begin(7);
    check.due("and over begin", x.restore(0), 3);
    x.keep(1);
    x.restore(0);
    check.due("and over restore", x.restore(1), 3);
  }

  private static void restoreIsRecorded() {
    HoldingStack x = new HoldingStack();
    x.keep(1);
    x.pass(3);
    check.tells("before", x, 17, 1);
    check.due("restore(1)", x.restore(1), 0);
    check.recorded("restore(1)", x, 1);
    check.due("undo", x.undo(), 1);
    check.tells("undo of restore", x, 0, 3);
    x.enter(LIGHT, 900, 2);
    x.enter(LIGHT, 40, 2);
    x.keep(0);
    x.enter(LIGHT, 900, 3);
    x.restore(0);
    check.tells("the reason is restored", x, 16, HoldingStack.TAKEN);
  }

  private static void checksum() {
    HoldingStack x = new HoldingStack();
    check.due("new", x.checksum(), checksumOf(x));
    x = busyStack();
    check.due("busy", x.checksum(), checksumOf(x));
    x.setRunway(true);
    check.due("open", x.checksum(), checksumOf(x));
    x.setLadder(true);
    for (int i = 0; i < 12; i++) {
      x.pass(2);
      check.due("two minutes later", x.checksum(), checksumOf(x));
    }
    long sum = x.checksum();
    Check.write(x, "t5;");
    x.keep(0);
    check.due("the text and the slots do not count", x.checksum(), sum);
  }

  private static long checksumOf(HoldingStack x) {
    long h = 157;
    for (int what = 0; what <= 17; what++) {
      h = 31 * h + x.tell(what);
    }
    for (int aircraft = 0; aircraft < x.tell(3); aircraft++) {
      for (int what = 0; what <= 7; what++) {
        h = 31 * h + x.aircraft(aircraft, what);
      }
      h = 31 * h + x.why(aircraft);
      h = 31 * h + x.minutesLeft(aircraft);
    }
    for (int level = 0; level < x.tell(1); level++) {
      h = 31 * h + x.level(level);
    }
    return h;
  }
}
