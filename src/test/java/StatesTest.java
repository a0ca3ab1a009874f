import java.math.BigInteger;
import java.util.function.Consumer;

/** Promises 23 to 26: undo, keep, restore, checksum. Each test bears the words of the document that it tests. */
public final class StatesTest {
  private static final int LIGHT = HoldingStack.LIGHT, MEDIUM = HoldingStack.MEDIUM, HEAVY = HoldingStack.HEAVY;
  private static final int BAD_INDEX = HoldingStack.BAD_INDEX, NOT_POSSIBLE = HoldingStack.NOT_POSSIBLE;
  private static final int NONE = HoldingStack.NONE;
  private static final Check check = new Check();

  public static void main(String[] args) {
    undoOfNothing();
    undoReturnsTheStatesThatAreLeft();
    undoRestoresTheLatest();
    historyOfFive();
    historyDropsTheOldest();
    historyAfterUndoAndMore();
    recordsAlsoIfNothingBecomesDifferent();
    recordsOnlyWhatIsRecorded();
    errorsAreNotRecorded();
    stateIsEverything();
    stateHasTheTimesOfThoseThatLeft();
    stateWithoutTheText();
    stateWithoutTheSlots();
    stateWithoutTheHistory();

    keepRange();
    keepReturnsTheTime();
    keepInPlaceOfWhatItKept();
    keepIsNotRecorded();
    keepTwoSlots();

    restoreRange();
    restoreOfAnEmptySlot();
    restoreReturnsTheTimeThen();
    restoreBringsAllBack();
    restoreBringsTheTimesBack();
    restoreLeavesTheSlot();
    restoreIsRecorded();

    checksumOfANewOne();
    checksumOfValues();
    checksumOfTwentyAircraft();
    checksumOfEachNumberOfLevels();
    checksumOverflows();
    checksumWithoutTextAndSlots();
    checksumChangesNothing();
    check.finish();
  }

  // ---- promise 23

  private static void undoOfNothing() {
    check.sentence(23, "NOT_POSSIBLE if there is none");
    HoldingStack x = new HoldingStack();
    check.changesNothing(x, "undo() of a new one", x::undo, NOT_POSSIBLE);
    x.pass(1);
    check.due("undo()", x.undo(), 0);
    check.changesNothing(x, "undo() once more", x::undo, NOT_POSSIBLE);
    check.tells("undo() once more", x, 0, 0);
  }

  private static void undoReturnsTheStatesThatAreLeft() {
    check.sentence(23, "Returns the number of states that are left in the history");
    HoldingStack x = new HoldingStack();
    for (int minute = 0; minute < 5; minute++) {
      x.pass(1);
    }
    for (int left = 4; left >= 0; left--) {
      check.due("undo()", x.undo(), left);
      check.tells("undo()", x, 17, left);
    }
  }

  private static void undoRestoresTheLatest() {
    check.sentence(23, "undo() removes and restores the latest");
    HoldingStack x = new HoldingStack();
    x.pass(1);
    x.pass(2);
    x.pass(4);
    check.due("undo()", x.undo(), 2);
    check.tells("undo()", x, 0, 3);
    x.pass(8);
    check.tells("pass(8)", x, 0, 11);
    check.due("undo()", x.undo(), 2);
    check.tells("undo()", x, 0, 3);
    check.due("undo()", x.undo(), 1);
    check.tells("undo()", x, 0, 1);
    check.due("undo()", x.undo(), 0);
    check.tells("undo()", x, 0, 0);
  }

  private static void historyOfFive() {
    check.sentence(23, "A history of at most 5 states is kept");
    HoldingStack x = new HoldingStack();
    for (int minute = 1; minute <= 13; minute++) {
      x.pass(1);
      check.tells("after " + minute, x, 17, Math.min(5, minute));
    }
  }

  private static void historyDropsTheOldest() {
    check.sentence(23, "when one more is recorded, the oldest one is dropped");
    for (int calls = 5; calls <= 17; calls++) {
      HoldingStack x = new HoldingStack();
      for (int minute = 0; minute < calls; minute++) {
        x.pass(1);
      }
      for (int left = 4; left >= 0; left--) {
        check.due(calls + " calls, undo()", x.undo(), left);
        check.tells(calls + " calls, undo()", x, 0, calls - 5 + left);
      }
      check.due(calls + " calls, undo() once more", x.undo(), NOT_POSSIBLE);
      check.tells(calls + " calls, undo() once more", x, 0, calls - 5);
    }
  }

  private static void historyAfterUndoAndMore() {
    check.sentence(23, "when one more is recorded, the oldest one is dropped; undo() removes and restores the latest");
    HoldingStack x = new HoldingStack();
    for (int minute = 0; minute < 7; minute++) {
      x.pass(1);
    }
    x.undo();
    x.undo();
    x.undo();
    check.tells("7 less 3", x, 0, 4);
    check.tells("7 less 3", x, 17, 2);
    for (int minute = 0; minute < 4; minute++) {
      x.pass(10);
    }
    check.tells("and 40", x, 0, 44);
    check.tells("and 40", x, 17, 5);
    int[] times = {34, 24, 14, 4, 3};
    for (int time : times) {
      x.undo();
      check.tells("undo()", x, 0, time);
    }
    check.due("undo() once more", x.undo(), NOT_POSSIBLE);
  }

  private static void recordsAlsoIfNothingBecomesDifferent() {
    check.sentence(23, "records the state before it (also if nothing becomes different)");
    HoldingStack x = new HoldingStack();
    check.recorded(x, "begin(10)", () -> x.begin(10), 10);
    check.recorded(x, "setLap(4)", () -> x.setLap(4), 4);
    check.recorded(x, "setLimit(16)", () -> x.setLimit(16), 16);
    check.recorded(x, "setRunway(true)", () -> x.setRunway(true), 1);
    check.recorded(x, "setLadder(true)", () -> x.setLadder(true), 1);
    check.recorded(x, "run()", x::run, 0);
    x.keep(0);
    check.recorded(x, "restore(0)", () -> x.restore(0), 0);
  }

  private static void recordsOnlyWhatIsRecorded() {
    check.sentence(23, "Each successful call of a method that is described as recorded");
    HoldingStack x = new HoldingStack();
    x.enter(LIGHT, 900, 3);
    x.pass(1);
    x.level(3);
    x.aircraft(0, 1);
    x.tell(5);
    x.why(0);
    x.minutesLeft(0);
    x.landsWith(0);
    x.endurance(0);
    x.bestLevel(LIGHT, 900);
    x.lands(0);
    x.append('o');
    x.clearText();
    x.faultPosition();
    x.keep(0);
    x.checksum();
    check.tells("none of these", x, 17, 2);
    x.undo();
    check.tells("undo() is not recorded", x, 17, 1);
  }

  private static void errorsAreNotRecorded() {
    check.sentence(23, "Each successful call");
    HoldingStack x = new HoldingStack();
    x.begin(3);
    x.setLap(1);
    x.setLimit(0);
    x.enter(5, 500, 0);
    x.enter(LIGHT, 500, 10);
    x.enter(LIGHT, 0, 0);
    x.enter(LIGHT, 40, 0);
    x.call(0);
    x.pass(0);
    x.undo();
    x.restore(0);
    x.restore(2);
    x.append('q');
    x.run();
    check.tells("none of these", x, 17, 0);
  }

  private static HoldingStack busyStack() {
    HoldingStack x = new HoldingStack();
    x.begin(12);
    x.setLap(3);
    x.setLimit(6);
    x.enter(LIGHT, 44, 11);
    x.enter(HEAVY, 900, 0);
    x.enter(MEDIUM, 300, 5);
    x.enter(MEDIUM, 109, 7);
    x.pass(2);
    x.setRunway(false);
    x.setLadder(false);
    x.call(2);
    x.enter(LIGHT, 40, 1);
    return x;
  }

  private static void stateIsEverything() {
    check.sentence(23, "a state is everything but the text, the history and the slots");
    undone("begin", x -> x.begin(5));
    undone("begin, as many levels", x -> x.begin(12));
    undone("setLap", x -> x.setLap(2));
    undone("setLimit", x -> x.setLimit(1));
    undone("setRunway", x -> x.setRunway(true));
    undone("setLadder", x -> x.setLadder(true));
    undone("enter", x -> x.enter(LIGHT, 50, 2));
    undone("call", x -> x.call(3));
    undone("pass", x -> x.pass(40));
    undone("run", x -> {
      Check.write(x, "o;t9;+l99@9;t4;");
      x.run();
    });
    undone("refused, then entered", x -> {
      x.setLimit(2);
      x.enter(LIGHT, 900, 2);
      x.undo();
      x.enter(LIGHT, 900, 2);
    });
    undone("restore", x -> {
      x.keep(1);
      x.begin(4);
      x.enter(HEAVY, 900, 0);
      x.keep(0);
      x.undo();
      x.undo();
      x.restore(0);
    });
  }

  private static void undone(String change, Consumer<HoldingStack> call) {
    HoldingStack x = busyStack();
    String before = answers(x);
    call.accept(x);
    check.due(change + " is seen", answers(x).equals(before) ? 1 : 0, 0);
    x.undo();
    check.due(change + " is undone", answers(x).equals(before) ? 1 : 0, 1);
  }

  /** All answers about the state, without the number of states in the history. */
  private static String answers(HoldingStack x) {
    StringBuilder all = new StringBuilder();
    for (int what = 0; what < 17; what++) {
      all.append(x.tell(what)).append(' ');
    }
    for (int aircraft = 0; aircraft < x.tell(3); aircraft++) {
      for (int what = 0; what < 8; what++) {
        all.append(x.aircraft(aircraft, what)).append(' ');
      }
      all.append(x.why(aircraft)).append(' ').append(x.minutesLeft(aircraft)).append(' ');
    }
    for (int level = 0; level < x.tell(1); level++) {
      all.append(x.level(level)).append(' ');
    }
    return all.toString();
  }

  private static void stateHasTheTimesOfThoseThatLeft() {
    check.sentence(23, "a state is everything but the text, the history and the slots");
    HoldingStack x = new HoldingStack();
    x.enter(LIGHT, 900, 0);
    x.pass(3);
    check.due("landed early", x.aircraft(0, 7), 2);
    x.begin(10);
    x.pass(50);
    x.enter(LIGHT, 900, 0);
    x.pass(3);
    check.due("another one, landed late", x.aircraft(0, 7), 52);
    for (int undone = 0; undone < 4; undone++) {
      x.undo();
    }
    check.tellsAircraft("undone", x, 0, LIGHT, 888, HoldingStack.LANDED, NONE, NONE, NONE, 0, 2);
  }

  private static void stateWithoutTheText() {
    check.sentence(23, "a state is everything but the text");
    HoldingStack x = new HoldingStack();
    x.keep(0);
    x.pass(1);
    Check.write(x, "t7;");
    x.undo();
    check.due("run() after undo()", x.run(), 1);
    check.tells("run() after undo()", x, 0, 7);
    x.restore(0);
    check.due("run() after restore()", x.run(), 1);
    check.tells("run() after restore()", x, 0, 7);
    x.begin(5);
    check.due("run() after begin()", x.run(), 1);
    check.due("the length after begin()", x.clearText(), 3);
  }

  private static void stateWithoutTheSlots() {
    check.sentence(23, "a state is everything but the text, the history and the slots");
    HoldingStack x = new HoldingStack();
    x.pass(3);
    x.keep(0);
    x.undo();
    check.due("after undo()", x.restore(0), 3);
    x.begin(7);
    check.due("after begin()", x.restore(0), 3);
    x.pass(1);
    x.keep(1);
    x.restore(0);
    check.due("after restore()", x.restore(1), 4);
  }

  private static void stateWithoutTheHistory() {
    check.sentence(23, "a state is everything but the text, the history and the slots");
    HoldingStack x = new HoldingStack();
    x.keep(0);
    x.pass(1);
    x.pass(1);
    x.restore(0);
    check.tells("restore() of a state without history", x, 17, 3);
    check.due("undo()", x.undo(), 2);
    x.begin(5);
    check.tells("begin() leaves it", x, 17, 3);
  }

  // ---- promise 24

  private static void keepRange() {
    check.sentence(24, "`slot`: 0 or 1");
    HoldingStack x = new HoldingStack();
    x.pass(7);
    for (int bad : new int[] {-1, 2, Integer.MAX_VALUE, Integer.MIN_VALUE}) {
      check.changesNothing(x, "keep(" + bad + ")", () -> x.keep(bad), BAD_INDEX);
    }
    check.due("slot 0 is empty", x.restore(0), NOT_POSSIBLE);
    check.due("slot 1 is empty", x.restore(1), NOT_POSSIBLE);
    check.due("keep(0)", x.keep(0), 7);
    check.due("keep(1)", x.keep(1), 7);
  }

  private static void keepReturnsTheTime() {
    check.sentence(24, "Returns the time");
    HoldingStack x = new HoldingStack();
    check.due("keep(0)", x.keep(0), 0);
    x.pass(99);
    check.due("keep(0)", x.keep(0), 99);
    x.begin(10);
    check.due("keep(0)", x.keep(0), 0);
  }

  private static void keepInPlaceOfWhatItKept() {
    check.sentence(24, "in place of what it kept");
    HoldingStack x = busyStack();
    x.keep(0);
    x.begin(4);
    x.pass(7);
    x.keep(0);
    String kept = answers(x);
    x.pass(1);
    check.due("restore(0)", x.restore(0), 7);
    check.due("the later state is back", answers(x).equals(kept) ? 1 : 0, 1);
  }

  private static void keepIsNotRecorded() {
    check.sentence(24, "Keeps the state in a slot");
    HoldingStack x = new HoldingStack();
    x.enter(LIGHT, 900, 3);
    check.changesNothing(x, "keep(0)", () -> x.keep(0), 0);
    check.changesNothing(x, "keep(1)", () -> x.keep(1), 0);
  }

  private static void keepTwoSlots() {
    check.sentence(24, "Keeps the state in a slot");
    HoldingStack x = new HoldingStack();
    x.pass(1);
    x.keep(1);
    check.due("slot 0 is empty", x.restore(0), NOT_POSSIBLE);
    x.pass(2);
    x.keep(0);
    x.pass(4);
    check.due("restore(1)", x.restore(1), 1);
    check.due("restore(0)", x.restore(0), 3);
    check.due("restore(1)", x.restore(1), 1);
  }

  // ---- promise 25

  private static void restoreRange() {
    check.sentence(25, "`slot`: 0 or 1");
    HoldingStack x = new HoldingStack();
    x.keep(0);
    x.keep(1);
    x.pass(3);
    for (int bad : new int[] {-1, 2, Integer.MAX_VALUE, Integer.MIN_VALUE}) {
      check.changesNothing(x, "restore(" + bad + ")", () -> x.restore(bad), BAD_INDEX);
    }
    check.due("restore(0)", x.restore(0), 0);
    check.due("restore(1)", x.restore(1), 0);
  }

  private static void restoreOfAnEmptySlot() {
    check.sentence(25, "NOT_POSSIBLE if the slot is empty");
    HoldingStack x = new HoldingStack();
    x.pass(3);
    check.changesNothing(x, "restore(0)", () -> x.restore(0), NOT_POSSIBLE);
    check.changesNothing(x, "restore(1)", () -> x.restore(1), NOT_POSSIBLE);
    x.keep(0);
    check.changesNothing(x, "restore(1), 0 is kept", () -> x.restore(1), NOT_POSSIBLE);
    check.due("restore(0)", x.restore(0), 3);
    HoldingStack y = new HoldingStack();
    y.keep(1);
    check.changesNothing(y, "restore(0), 1 is kept", () -> y.restore(0), NOT_POSSIBLE);
  }

  private static void restoreReturnsTheTimeThen() {
    check.sentence(25, "Returns the time then");
    HoldingStack x = new HoldingStack();
    x.pass(5);
    x.keep(0);
    x.pass(20);
    check.due("restore(0)", x.restore(0), 5);
    check.tells("restore(0)", x, 0, 5);
  }

  private static void restoreBringsAllBack() {
    check.sentence(25, "Restores the state that a slot keeps");
    HoldingStack x = busyStack();
    x.keep(1);
    String kept = answers(x);
    x.begin(4);
    x.setLap(7);
    x.setLimit(2);
    x.setRunway(true);
    x.setLadder(true);
    x.pass(9);
    x.enter(HEAVY, 700, 3);
    check.due("restore(1)", x.restore(1), 2);
    check.due("all is back", answers(x).equals(kept) ? 1 : 0, 1);
    // That the levels above the fourth and the times of those that left are back, too, shows in a new run of minutes.
    x.setRunway(true);
    x.setLadder(true);
    HoldingStack y = busyStack();
    y.setRunway(true);
    y.setLadder(true);
    x.pass(50);
    y.pass(50);
    check.due("and goes on as before", answers(x).equals(answers(y)) ? 1 : 0, 1);
  }

  private static void restoreBringsTheTimesBack() {
    check.sentence(25, "Restores the state that a slot keeps");
    HoldingStack x = new HoldingStack();
    x.enter(LIGHT, 900, 0);
    x.pass(3);
    x.keep(0);
    x.begin(10);
    x.pass(50);
    x.enter(LIGHT, 900, 0);
    x.pass(3);
    check.due("landed late", x.aircraft(0, 7), 52);
    x.restore(0);
    check.due("landed early", x.aircraft(0, 7), 2);
    x.undo();
    check.due("landed late again", x.aircraft(0, 7), 52);
  }

  private static void restoreLeavesTheSlot() {
    check.sentence(25, "the slot keeps it");
    HoldingStack x = busyStack();
    x.keep(0);
    String kept = answers(x);
    for (int round = 0; round < 3; round++) {
      x.pass(30);
      x.setLap(8);
      x.enter(LIGHT, 900, 9);
      check.due("restore(0)", x.restore(0), 2);
      check.due("all is back", answers(x).equals(kept) ? 1 : 0, 1);
    }
    x.restore(0);
    x.undo();
    check.due("after undo() of restore()", x.restore(0), 2);
  }

  private static void restoreIsRecorded() {
    check.sentence(25, "Recorded.");
    HoldingStack x = new HoldingStack();
    x.enter(LIGHT, 900, 2);
    x.keep(1);
    x.pass(3);
    check.recorded(x, "restore(1)", () -> x.restore(1), 0);
    check.tells("undone", x, 0, 3);
    x.enter(LIGHT, 40, 5);
    x.keep(0);
    x.enter(LIGHT, 900, 5);
    x.restore(0);
    check.tells("the reason is restored", x, 16, HoldingStack.SHORT);
    x.undo();
    check.tells("and undone", x, 16, 0);
  }

  // ---- promise 26

  private static long sum(long h, int... values) {
    for (int value : values) {
      h = 31 * h + value;
    }
    return h;
  }

  private static void checksumOfANewOne() {
    check.sentence(26, "with h = 157, for each of the following values v, in this order, h becomes 31 * h + v");
    long h = sum(157, 0, 10, 4, 0, 0, 0, 0, 0, 0, 1, 1, 16, 0, 0, 0, 0, 0, 0);
    h = sum(h, NONE, NONE, NONE, NONE, NONE, NONE, NONE, NONE, NONE, NONE);
    check.due("new", new HoldingStack().checksum(), h);
  }

  private static void checksumOfValues() {
    check.sentence(26, "tell() of 0 to 17; for each aircraft aircraft() of 0 to 7, why() and minutesLeft(); for each level level()");
    HoldingStack x = new HoldingStack();
    x.begin(4);
    x.setLap(2);
    x.setLimit(3);
    x.enter(HEAVY, 900, 0);
    x.enter(LIGHT, 900, 3);
    x.call(1);
    x.pass(1);
    x.enter(MEDIUM, 100, 1);
    // 0 landed in minute 1 with 882; 1 went down to level 2, and lands in minute 7, two laps after it is on level 0.
    long h = sum(157, 1, 4, 2, 2, 1, 1, 0, 1, 4, 1, 1, 3, 1800, 22, 882, 0, HoldingStack.SHORT, 5);
    h = sum(h, HEAVY, 882, HoldingStack.LANDED, NONE, NONE, NONE, 0, 0, 1, 0);
    h = sum(h, LIGHT, 896, HoldingStack.HOLDING, 2, 0, 0, 0, NONE, 0, 6);
    h = sum(h, NONE, NONE, 1, NONE);
    check.due("two aircraft", x.checksum(), h);
    check.due("two aircraft, of the answers", x.checksum(), checksumOf(x));
    x = busyStack();
    check.due("busy", x.checksum(), checksumOf(x));
    x.setRunway(true);
    check.due("open", x.checksum(), checksumOf(x));
    x.setLadder(true);
    for (int i = 0; i < 2; i++) {
      x.pass(6);
      check.due("six minutes later", x.checksum(), checksumOf(x));
    }
  }

  private static void checksumOfTwentyAircraft() {
    check.sentence(26, "for each aircraft");
    HoldingStack x = new HoldingStack();
    x.setLap(2);
    for (int aircraft = 0; aircraft < 20; aircraft++) {
      x.enter(aircraft % 2, 900, 0);
      x.pass(4);
    }
    check.tells("twenty", x, 3, 20);
    check.due("twenty", x.checksum(), checksumOf(x));
  }

  private static void checksumOfEachNumberOfLevels() {
    check.sentence(26, "for each level level()");
    for (int levels = 4; levels <= 16; levels++) {
      HoldingStack x = new HoldingStack();
      x.begin(levels);
      x.enter(LIGHT, 900, levels - 1);
      check.due(levels + " levels", x.checksum(), checksumOf(x));
    }
  }

  private static void checksumOverflows() {
    check.sentence(26, "(as longs, with overflow)");
    // 157 * 31 ^ 28 is far above the largest long: only its last 64 bits are left.
    BigInteger h = BigInteger.valueOf(157);
    int[] values = {0, 10, 4, 0, 0, 0, 0, 0, 0, 1, 1, 16, 0, 0, 0, 0, 0, 0, -6, -6, -6, -6, -6, -6, -6, -6, -6, -6};
    for (int value : values) {
      h = h.multiply(BigInteger.valueOf(31)).add(BigInteger.valueOf(value));
    }
    check.due("new", new HoldingStack().checksum(), h.longValue());
  }

  private static void checksumWithoutTextAndSlots() {
    check.sentence(26, "for each of the following values v");
    HoldingStack x = busyStack();
    long sum = x.checksum();
    Check.write(x, "t5;");
    x.keep(0);
    check.due("with a text and a slot", x.checksum(), sum);
  }

  private static void checksumChangesNothing() {
    check.sentence(26, "Computes a checksum");
    HoldingStack x = busyStack();
    String before = answers(x);
    long sum = x.checksum();
    check.due("the same again", x.checksum(), sum);
    check.due("all is as before", answers(x).equals(before) ? 1 : 0, 1);
    check.tells("history", x, 17, 5);
  }

  private static long checksumOf(HoldingStack x) {
    long h = 157;
    for (int what = 0; what <= 17; what++) {
      h = 31 * h + x.tell(what);
    }
    for (int aircraft = 0; aircraft < x.tell(3); aircraft++) {
      for (int what = 0; what <= 7; what++) {
        h = 31 * h + x.aircraft(aircraft, what);
      }
      h = 31 * h + x.why(aircraft);
      h = 31 * h + x.minutesLeft(aircraft);
    }
    for (int level = 0; level < x.tell(1); level++) {
      h = 31 * h + x.level(level);
    }
    return h;
  }
}
