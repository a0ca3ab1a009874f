/** Many runs of up to 512 calls, the same every time, on HoldingStack and on PlainStack: the answers must be equal. */
public final class PlainStackTest {
  private static final int RUNS = 400;
  /** What later calls on an object answer is free. */
  private static final int CALLS = 512;
  /** More calls than any step makes: the longest one writes, checks and runs a text of five strips. */
  private static final int CALLS_OF_A_STEP = 70;
  private static final int[] ODD = {Integer.MIN_VALUE, -2, -1, 0, 1, 2, 3, 4, 16, 17, 20, 99, 100, 10000, Integer.MAX_VALUE};
  private static final String LETTERS = "+lmhctox@;0123456789 q";

  private final Check check = new Check();
  private HoldingStack stack;
  private PlainStack plain;
  private long seed;
  private int calls;
  private String where;

  public static void main(String[] args) {
    PlainStackTest test = new PlainStackTest();
    for (int run = 0; run < RUNS; run++) {
      test.run(run);
    }
    test.check.finish();
  }

  /** Numbers that look random, but are the same in every run of the test. */
  private int below(int bound) {
    seed = seed * 6364136223846793005L + 1442695040888963407L;
    return (int) ((seed >>> 33) % bound);
  }

  private boolean oneIn(int number) {
    return below(number) == 0;
  }

  private int number(int from, int to) {
    return oneIn(25) ? ODD[below(ODD.length)] : from + below(to - from + 1);
  }

  private void run(int run) {
    seed = 1000003L * run + 17;
    stack = new HoldingStack();
    plain = new PlainStack();
    // Some runs let few minutes pass at once, so that the stack stays crowded; some call down, some never begin anew.
    int minutes = 1 + below(12);
    boolean begins = oneIn(3);
    // Some runs ask little and write few texts, so that more becomes different in as many calls.
    boolean quiet = oneIn(2);
    calls = 0;
    for (int step = 0; calls + CALLS_OF_A_STEP < CALLS; step++) {
      where = "run " + run + ", step " + step + ": ";
      step(minutes, begins, quiet);
      if (step % 16 == 15) {
        due("checksum()", stack.checksum(), plain.checksum());
      }
    }
    due("checksum()", stack.checksum(), plain.checksum());
  }

  /** Each call of the stack is compared here, and counted. */
  private void due(String call, long got, long want) {
    calls++;
    check.due(where + call, got, want);
  }

  private void step(int minutes, boolean begins, boolean quiet) {
    int choice = below(quiet && !oneIn(5) ? 34 : 60);
    if (choice < 14) {
      enterOne();
    } else if (choice < 26) {
      int m = number(1, minutes);
      due("pass(" + m + ")", stack.pass(m), plain.pass(m));
    } else if (choice < 34) {
      change(choice, begins);
    } else if (choice < 46) {
      ask();
    } else if (choice < 53) {
      text();
    } else {
      states();
    }
  }

  private int fuel(int kind) {
    int reserve = kind == 0 ? 40 : kind == 1 ? 100 : 220;
    int rate = kind == 0 ? 4 : kind == 1 ? 9 : 18;
    return oneIn(8) ? number(1, 9999) : oneIn(6) ? reserve + number(-1, 1) : reserve + 1 + below(rate * 40);
  }

  private void enterOne() {
    int kind = number(0, 2);
    int fuel = fuel(kind);
    int level = number(0, Math.max(0, plain.tell(1) - 1));
    due("enter(" + kind + ", " + fuel + ", " + level + ")", stack.enter(kind, fuel, level), plain.enter(kind, fuel, level));
    due("tell(16)", stack.tell(16), plain.tell(16));
  }

  private void change(int choice, boolean begins) {
    int value;
    boolean flag = !oneIn(3);
    switch (choice) {
      case 26:
        if (begins && oneIn(4) || plain.tell(3) == 20) {
          value = number(4, 16);
          due("begin(" + value + ")", stack.begin(value), plain.begin(value));
        }
        break;
      case 27:
        value = number(2, 8);
        due("setLap(" + value + ")", stack.setLap(value), plain.setLap(value));
        break;
      case 28:
        value = number(oneIn(3) ? 1 : 8, 16);
        due("setLimit(" + value + ")", stack.setLimit(value), plain.setLimit(value));
        break;
      case 29:
        due("setRunway(" + flag + ")", stack.setRunway(flag), plain.setRunway(flag));
        break;
      case 30:
        due("setLadder(" + flag + ")", stack.setLadder(flag), plain.setLadder(flag));
        break;
      default:
        value = number(0, Math.max(0, plain.tell(3)));
        due("call(" + value + ")", stack.call(value), plain.call(value));
    }
  }

  private void ask() {
    int a = number(0, Math.max(0, plain.tell(3)));
    int what = number(0, 17);
    due("why(" + a + ")", stack.why(a), plain.why(a));
    due("endurance(" + a + ")", stack.endurance(a), plain.endurance(a));
    due("tell(" + what + ")", stack.tell(what), plain.tell(what));
    due("aircraft(" + a + ", " + what + ")", stack.aircraft(a, what), plain.aircraft(a, what));
    due("level(" + what + ")", stack.level(what), plain.level(what));
    if (oneIn(3)) {
      due("minutesLeft(" + a + ")", stack.minutesLeft(a), plain.minutesLeft(a));
      due("landsWith(" + a + ")", stack.landsWith(a), plain.landsWith(a));
      due("lands(" + what + ")", stack.lands(what), plain.lands(what));
    }
    if (oneIn(6)) {
      int kind = number(0, 2);
      int fuel = fuel(kind);
      due("bestLevel(" + kind + ", " + fuel + ")", stack.bestLevel(kind, fuel), plain.bestLevel(kind, fuel));
    }
  }

  private String strip() {
    switch (below(6)) {
      case 0:
      case 1:
        int kind = below(3);
        return "+" + "lmh".charAt(kind) + (oneIn(9) ? below(20000) : fuel(kind)) + "@" + below(oneIn(5) ? 18 : plain.tell(1)) + ";";
      case 2:
        return "c" + below(oneIn(5) ? 22 : 1 + plain.tell(3)) + ";";
      case 3:
        return "t" + below(oneIn(6) ? 102 : 9) + ";";
      default:
        return oneIn(3) ? "x;" : "o;";
    }
  }

  private void text() {
    StringBuilder text = new StringBuilder();
    for (int strips = below(6); strips > 0; strips--) {
      text.append(strip());
    }
    if (oneIn(3) && text.length() > 0) {
      text.setCharAt(below(text.length()), LETTERS.charAt(below(LETTERS.length())));
    }
    if (oneIn(5) && text.length() > 0) {
      text.setLength(below(text.length()));
    }
    if (oneIn(2)) {
      due("clearText()", stack.clearText(), plain.clearText());
    }
    for (int i = 0; i < text.length(); i++) {
      due("append", stack.append(text.charAt(i)), plain.append(text.charAt(i)));
    }
    int odd = number(32, 126);
    if (oneIn(9)) {
      due("append(" + odd + ")", stack.append(odd), plain.append(odd));
    }
    due("faultPosition() after " + text, stack.faultPosition(), plain.faultPosition());
    due("run() after " + text, stack.run(), plain.run());
    due("tell(16)", stack.tell(16), plain.tell(16));
    due("tell(17)", stack.tell(17), plain.tell(17));
  }

  private void states() {
    int slot = number(0, 1);
    switch (below(4)) {
      case 0:
        due("keep(" + slot + ")", stack.keep(slot), plain.keep(slot));
        break;
      case 1:
        due("restore(" + slot + ")", stack.restore(slot), plain.restore(slot));
        break;
      default:
        due("undo()", stack.undo(), plain.undo());
    }
  }
}
