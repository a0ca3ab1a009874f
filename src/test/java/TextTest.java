/** Promises 19 to 22: append, clearText, faultPosition and run. */
public final class TextTest {
  private static final int NONE = HoldingStack.NONE;
  private static final Check check = new Check();

  public static void main(String[] args) {
    append();
    clearText();
    textsWithoutFault();
    faults();
    numbersOutOfRange();
    endsTooEarly();
    runsStrips();
    runStopsAtAnError();
    runIsRecordedOnce();
    runSetsTheReason();
    textIsNoPartOfTheState();
    check.finish();
  }

  private static void append() {
    HoldingStack x = new HoldingStack();
    check.due("append(31)", x.append(31), HoldingStack.BAD_VALUE);
    check.due("append(127)", x.append(127), HoldingStack.BAD_VALUE);
    check.due("append(-1)", x.append(-1), HoldingStack.BAD_VALUE);
    check.due("append('o' + 65536)", x.append('o' + 65536), HoldingStack.BAD_VALUE);
    check.due("append(32)", x.append(32), 1);
    check.due("append(126)", x.append(126), 2);
    for (int length = 3; length <= 80; length++) {
      check.due("append, " + length, x.append('o'), length);
    }
    check.due("append to 80", x.append('o'), HoldingStack.FULL);
    check.due("append(31) to 80", x.append(31), HoldingStack.BAD_VALUE);
    check.due("clearText()", x.clearText(), 80);
    check.due("append after it", x.append('o'), 1);
    check.tells("not recorded", x, 17, 0);
  }

  private static void clearText() {
    HoldingStack x = new HoldingStack();
    check.due("clearText of an empty one", x.clearText(), 0);
    Check.write(x, "q;");
    check.due("fault", x.faultPosition(), 0);
    check.due("clearText", x.clearText(), 2);
    check.due("no fault", x.faultPosition(), NONE);
    check.due("clearText again", x.clearText(), 0);
    check.tells("not recorded", x, 17, 0);
  }

  private static void textsWithoutFault() {
    String[] texts = {
      "", "o;", "x;", "t1;", "t99;", "t10;", "c0;", "c9;", "c10;", "c19;", "+l1@0;", "+m9999@15;", "+h10@9;",
      "+l1000@10;", "o;x;t1;c0;+l41@0;o;", "+l1@1;+m10@1;+h100@1;+l1000@1;",
    };
    for (String text : texts) {
      due(text, NONE);
    }
    due("o;".repeat(40), NONE);
  }

  private static void due(String text, int want) {
    HoldingStack x = new HoldingStack();
    Check.write(x, text);
    check.due("faultPosition of '" + text + "'", x.faultPosition(), want);
    check.due("length of '" + text + "'", x.clearText(), text.length());
  }

  private static void faults() {
    due(";", 0);
    due(" o;", 0);
    due("o ;", 1);
    due("O;", 0);
    due("o;;", 2);
    due("o;q", 2);
    due("ox;", 1);
    due("5;", 0);
    due("t;", 1);
    due("c;", 1);
    due("ta;", 1);
    due("t+5;", 1);
    due("c-1;", 1);
    due("+;", 1);
    due("+x100@1;", 1);
    due("+L100@1;", 1);
    due("+100@1;", 1);
    due("l100@1;", 0);
    due("+l@1;", 2);
    due("+l100;", 5);
    due("+l100 @1;", 5);
    due("+l100@;", 6);
    due("+l100@x;", 6);
    due("+l100@1", 7);
    due("+l100@1@", 7);
    due("t5 ;", 2);
    due("t5,", 2);
    due("t5c0;", 2);
    due("x1;", 1);
    due("t5;o;c3;z;", 8);
    due("o;".repeat(39) + "oo", 79);
  }

  private static void numbersOutOfRange() {
    due("t0;", 1);
    due("t01;", 1);
    due("t100;", 1);
    due("t999;", 1);
    due("t1000;", 1);
    due("t12345;", 1);
    due("t100", 1);
    due("t100x", 1);
    due("c00;", 2);
    due("c01;", 2);
    due("c09", 2);
    due("c20;", 1);
    due("c99;", 1);
    due("c190;", 1);
    due("c1999999;", 1);
    due("+l0@1;", 2);
    due("+l05@1;", 2);
    due("+l00@1;", 2);
    due("+l9999@1;", NONE);
    due("+l10000@1;", 6);
    due("+l99999@1;", 6);
    due("+l12345", 6);
    due("+l100@16;", 6);
    due("+l100@20;", 6);
    due("+l100@150;", 6);
    due("+l100@99999;", 6);
    due("+l100@00;", 7);
    due("+l100@01;", 7);
    due("+l100@0@", 7);
    due("+l0", 2);
    due("+l0x", 2);
    due("t5;c20;o;t0;", 4);
    due("t5;t0;c20;", 4);
  }

  private static void endsTooEarly() {
    String[] texts = {"o", "x", "t", "c", "t5", "t99", "c0", "c19", "+", "+l", "+m1", "+h9999", "+l100@", "+l100@1", "o;t", "+l100@15"};
    for (String text : texts) {
      due(text, text.length());
    }
    due("o;".repeat(39) + "t1", 80);
  }

  private static void runsStrips() {
    HoldingStack x = new HoldingStack();
    Check.write(x, "+h500@7;+m200@3;+l900@0;c1;x;t6;o;");
    check.due("run", x.run(), 7);
    // 1 goes down in minute 3, to level 2; 0 to level 6; it is closed until minute 6.
    check.tells("run", x, 0, 6, 10, 4, 3, 3, 0, 0, 2, 0, 1);
    check.tellsAircraft("heavy", x, 0, HoldingStack.HEAVY, 500 - 3 * 15 - 3 * 16, 0, 6, 3, 0, 0, NONE);
    check.tellsAircraft("medium", x, 1, HoldingStack.MEDIUM, 146, 0, 2, 3, 0, 0, NONE);
    check.tellsAircraft("light", x, 2, HoldingStack.LIGHT, 876, 0, 0, 3, 0, 0, NONE);
    check.due("the text stays: two enter, level 0 is taken", x.run(), 2);
    x.undo();
    check.due("clearText", x.clearText(), 34);
    Check.write(x, "c0;x;c1;");
    check.due("run of calls", x.run(), 3);
    check.due("0 is called", x.aircraft(0, 5), 1);
    check.due("1 is called", x.aircraft(1, 5), 1);
    check.tells("closed", x, 9, 0);
    Check.write(x, "o;t1;");
    check.due("run", x.run(), 2);
    check.tells("the light one landed", x, 5, 1);
  }

  private static void runStopsAtAnError() {
    String[] bad = {"c0;", "c19;", "+l40@1;", "+l100@10;", "+h300@5;"};
    for (String strip : bad) {
      HoldingStack x = new HoldingStack();
      x.enter(HoldingStack.LIGHT, 900, 5);
      x.call(0);
      Check.write(x, "t1;x;" + strip + "t1;o;");
      check.due("run up to " + strip, x.run(), 2);
      check.tells("run up to " + strip, x, 0, 1);
      check.tells("run up to " + strip, x, 9, 0);
      check.tells("run up to " + strip, x, 3, 1);
      check.tells("run up to " + strip, x, 17, 3);
    }
    HoldingStack y = new HoldingStack();
    Check.write(y, "t1;x;q");
    check.due("run with a fault", y.run(), HoldingStack.NOT_POSSIBLE);
    check.tells("run with a fault", y, 0, 0);
    check.tells("run with a fault", y, 9, 1);
    check.tells("run with a fault", y, 17, 0);
  }

  private static void runIsRecordedOnce() {
    HoldingStack x = new HoldingStack();
    check.due("run of the empty text", x.run(), 0);
    check.recorded("run of the empty text", x, 0);
    Check.write(x, "c3;");
    check.due("run of no strip", x.run(), 0);
    check.recorded("run of no strip", x, 1);
    Check.write(x, "+l900@1;t3;x;t3;o;c0;");
    check.due("run of six, the last one an error", x.run(), 5);
    check.recorded("run of six", x, 2);
    check.due("undo", x.undo(), 2);
    check.tells("undo of a run", x, 0, 0, 10, 4, 0);
    check.tells("undo of a run", x, 9, 1);
  }

  private static void runSetsTheReason() {
    HoldingStack x = new HoldingStack();
    Check.write(x, "+l900@1;t1;+l900@1;");
    check.due("run", x.run(), 2);
    check.tells("the try was refused", x, 16, HoldingStack.TAKEN, 1);
    x.undo();
    check.tells("undo", x, 16, 0, 0);
    Check.write(x, "+l900@1;+l40@2;");
    check.due("run", x.run(), 1);
    check.tells("short", x, 16, HoldingStack.SHORT);
    Check.write(x, "+l900@12;");
    check.due("run", x.run(), 0);
    check.tells("no such level", x, 16, HoldingStack.SHORT);
    Check.write(x, "+l900@2;");
    check.due("run", x.run(), 1);
    check.tells("entered", x, 16, 0);
  }

  private static void textIsNoPartOfTheState() {
    HoldingStack x = new HoldingStack();
    x.keep(0);
    x.pass(1);
    Check.write(x, "t7;");
    x.undo();
    check.due("run after undo", x.run(), 1);
    check.tells("run after undo", x, 0, 7);
    x.restore(0);
    check.due("run after restore", x.run(), 1);
    check.tells("run after restore", x, 0, 7);
    x.begin(5);
    check.due("run after begin", x.run(), 1);
    check.due("the length after begin", x.clearText(), 3);
  }
}
