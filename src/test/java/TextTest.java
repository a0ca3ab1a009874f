/** Promises 19 to 22: append, clearText, faultPosition, run. Each test bears the words of the document that it tests. */
public final class TextTest {
  private static final int LIGHT = HoldingStack.LIGHT, MEDIUM = HoldingStack.MEDIUM, HEAVY = HoldingStack.HEAVY;
  private static final int NONE = HoldingStack.NONE, NOT_POSSIBLE = HoldingStack.NOT_POSSIBLE;
  private static final Check check = new Check();

  public static void main(String[] args) {
    appendRange();
    appendReturnsTheLength();
    appendUpToEighty();
    appendOrderOfErrors();
    appendIsNotRecorded();

    clearTextReturnsTheLength();
    clearTextEmpties();
    clearTextIsNotRecorded();

    perhapsNoStrip();
    eachStripHasASemicolon();
    enters();
    calls();
    minutes();
    runwayStrips();
    noZeroAhead();
    fuelRange();
    levelRange();
    aircraftRange();
    minutesRange();
    faultAtTheFirstCharacter();
    faultAtTheLengthIfItEndsTooEarly();
    outOfRangeAtItsFirstDigit();
    fourDigitsAtMost();
    zeroAlone();
    digitBehindANumber();
    whetherThereIsSuchPlaysNoPart();
    onlyTheFirstFaultCounts();
    textsOfEighty();
    faultPositionChangesNothing();

    runsEachKindOfStrip();
    runReturnsTheNumberOfStrips();
    runUpToTheFirstError();
    runOfALastStripThatIsAnError();
    runOfATextWithAFault();
    runIsRecordedAsOneCall();
    runIsRecordedIfNoneIsCarriedOut();
    runLeavesTheText();
    runSetsTheReason();
    runWithTwentyAircraft();
    runOfFortyStrips();
    check.finish();
  }

  // ---- promise 19

  private static void appendRange() {
    check.sentence(19, "the code of a character, 32 to 126");
    HoldingStack x = new HoldingStack();
    x.append('t');
    for (int bad : new int[] {31, 127, 0, -1, 128, 'o' + 65536, 'o' - 65536, Integer.MAX_VALUE, Integer.MIN_VALUE}) {
      check.changesNothing(x, "append(" + bad + ")", () -> x.append(bad), HoldingStack.BAD_VALUE);
    }
    check.due("append(32)", x.append(32), 2);
    check.due("append(126)", x.append(126), 3);
    check.due("clearText()", x.clearText(), 3);
    for (int code = 32; code <= 126; code++) {
      x.clearText();
      check.due("append(" + code + ")", x.append(code), 1);
    }
  }

  private static void appendReturnsTheLength() {
    check.sentence(19, "Returns the length of the text then");
    HoldingStack x = new HoldingStack();
    for (int length = 1; length <= 80; length++) {
      check.due("append, " + length, x.append('o'), length);
    }
  }

  private static HoldingStack eighty() {
    HoldingStack x = new HoldingStack();
    Check.write(x, "o;".repeat(40));
    return x;
  }

  private static void appendUpToEighty() {
    check.sentence(19, "FULL if it has 80 characters");
    HoldingStack x = eighty();
    check.changesNothing(x, "the 81st", () -> x.append('o'), HoldingStack.FULL);
    check.due("run()", x.run(), 40);
    check.due("clearText()", x.clearText(), 80);
    check.due("append after it", x.append('o'), 1);
    HoldingStack y = eighty();
    y.clearText();
    Check.write(y, "o".repeat(79));
    check.due("the 80th", y.append('o'), 80);
    check.due("the 81st", y.append('o'), HoldingStack.FULL);
    check.due("the 82nd", y.append('o'), HoldingStack.FULL);
  }

  private static void appendOrderOfErrors() {
    check.sentence(19, "Returns the length of the text then; BAD_VALUE; FULL");
    HoldingStack x = eighty();
    check.due("append(31) to 80", x.append(31), HoldingStack.BAD_VALUE);
    check.due("append(127) to 80", x.append(127), HoldingStack.BAD_VALUE);
    check.due("append(32) to 80", x.append(32), HoldingStack.FULL);
  }

  private static void appendIsNotRecorded() {
    check.sentence(19, "Each successful call of a method that is described as recorded");
    HoldingStack x = new HoldingStack();
    x.append('o');
    check.tells("append", x, 17, 0);
  }

  // ---- promise 20

  private static void clearTextReturnsTheLength() {
    check.sentence(20, "Returns the length that it had.");
    HoldingStack x = new HoldingStack();
    check.due("an empty one", x.clearText(), 0);
    Check.write(x, "q;");
    check.due("one of 2", x.clearText(), 2);
    check.due("an empty one", x.clearText(), 0);
    check.due("one of 80", eighty().clearText(), 80);
  }

  private static void clearTextEmpties() {
    check.sentence(20, "Empties the text.");
    HoldingStack x = new HoldingStack();
    Check.write(x, "t5;q");
    check.due("faultPosition()", x.faultPosition(), 3);
    x.clearText();
    check.due("faultPosition()", x.faultPosition(), NONE);
    check.due("run()", x.run(), 0);
    Check.write(x, "t");
    check.due("nothing behind a shorter text", x.faultPosition(), 1);
  }

  private static void clearTextIsNotRecorded() {
    check.sentence(20, "Each successful call of a method that is described as recorded");
    HoldingStack x = new HoldingStack();
    x.append('o');
    x.clearText();
    check.tells("clearText", x, 17, 0);
  }

  // ---- promise 21

  private static void fault(String text, int want) {
    HoldingStack x = new HoldingStack();
    Check.write(x, text);
    check.due("faultPosition() of '" + text + "'", x.faultPosition(), want);
    check.due("length of '" + text + "'", x.clearText(), text.length());
  }

  private static void perhapsNoStrip() {
    check.sentence(21, "It consists of strips, perhaps none");
    fault("", NONE);
    fault("o;", NONE);
    fault("o;x;t1;c0;+l41@0;o;", NONE);
    fault(" ", 0);
  }

  private static void eachStripHasASemicolon() {
    check.sentence(21, "each followed by a semicolon");
    fault(";", 0);
    fault("o;;", 2);
    fault(";o;", 0);
    fault("ox;", 1);
    fault("o x;", 1);
    fault("o,", 1);
    fault("o:", 1);
    fault("t5c0;", 2);
    fault("t5 ;", 2);
    fault("c0o;", 2);
    fault("+l41@0o;", 6);
    fault("o; x;", 2);
    fault("o; ", 2);
  }

  private static void enters() {
    check.sentence(21, "a plus sign, the letter of a kind (l, m or h), the fuel, an at sign and a level (it enters)");
    fault("+l100@1;", NONE);
    fault("+m100@1;", NONE);
    fault("+h100@1;", NONE);
    fault("+;", 1);
    fault("++l100@1;", 1);
    fault("+x100@1;", 1);
    fault("+o100@1;", 1);
    fault("+L100@1;", 1);
    fault("+k100@1;", 1);
    fault("+n100@1;", 1);
    fault("+100@1;", 1);
    fault("l100@1;", 0);
    fault("-l100@1;", 0);
    fault("+lm100@1;", 2);
    fault("+l@1;", 2);
    fault("+l;", 2);
    fault("+l+5@1;", 2);
    fault("+l-5@1;", 2);
    fault("+l 5@1;", 2);
    fault("+l100;", 5);
    fault("+l100 @1;", 5);
    fault("+l100x1;", 5);
    fault("+l100@;", 6);
    fault("+l100@x;", 6);
    fault("+l100@-1;", 6);
    fault("+l100@@1;", 6);
    fault("+l100@1@", 7);
  }

  private static void calls() {
    check.sentence(21, "c and the number of an aircraft (it is called)");
    fault("c0;", NONE);
    fault("c7;", NONE);
    fault("c;", 1);
    fault("c-1;", 1);
    fault("cc0;", 1);
    fault("C0;", 0);
    fault("d0;", 0);
    fault("b0;", 0);
    fault("c0c;", 2);
  }

  private static void minutes() {
    check.sentence(21, "t and a number of minutes from 1 to 99 (they pass)");
    fault("t5;", NONE);
    fault("t;", 1);
    fault("ta;", 1);
    fault("t+5;", 1);
    fault("T5;", 0);
    fault("5;", 0);
    fault("5t;", 0);
    // The characters before 0 and behind 9 are no digits.
    fault("t/;", 1);
    fault("t:;", 1);
    fault("t5/;", 2);
    fault("t5:;", 2);
  }

  private static void runwayStrips() {
    check.sentence(21, "o (the runway is opened); or x (it is closed)");
    fault("o;", NONE);
    fault("x;", NONE);
    fault("O;", 0);
    fault("X;", 0);
    fault("o1;", 1);
    fault("x1;", 1);
    fault("0;", 0);
    fault("n;", 0);
    fault("p;", 0);
    fault("w;", 0);
    fault("y;", 0);
  }

  private static void noZeroAhead() {
    check.sentence(21, "Numbers have no 0 ahead, unless they are 0");
    fault("c0;", NONE);
    fault("c01;", 2);
    fault("c00;", 2);
    fault("c010;", 2);
    fault("+l100@0;", NONE);
    fault("+l100@00;", 7);
    fault("+l100@05;", 7);
    fault("+l05@1;", 2);
    fault("+l00@1;", 2);
    fault("t01;", 1);
    fault("t00;", 1);
    fault("t10;", NONE);
    fault("c10;", NONE);
    fault("+l10@10;", NONE);
  }

  private static void fuelRange() {
    check.sentence(21, "the fuel is from 1 to 9999");
    fault("+l1@1;", NONE);
    fault("+l9@1;", NONE);
    fault("+l10@1;", NONE);
    fault("+l1000@1;", NONE);
    fault("+l9999@1;", NONE);
    fault("+l0@1;", 2);
    fault("+l10000@1;", 6);
    fault("+l99999@1;", 6);
  }

  private static void levelRange() {
    check.sentence(21, "a level from 0 to 15");
    for (int level = 0; level <= 15; level++) {
      fault("+l100@" + level + ";", NONE);
    }
    for (int level = 16; level <= 100; level += 7) {
      fault("+l100@" + level + ";", 6);
    }
    fault("+l100@150;", 6);
    fault("+l100@1000;", 6);
  }

  private static void aircraftRange() {
    check.sentence(21, "an aircraft from 0 to 19");
    for (int aircraft = 0; aircraft <= 19; aircraft++) {
      fault("c" + aircraft + ";", NONE);
    }
    for (int aircraft = 20; aircraft <= 110; aircraft += 9) {
      fault("c" + aircraft + ";", 1);
    }
    fault("c190;", 1);
    fault("c1000;", 1);
  }

  private static void minutesRange() {
    check.sentence(21, "a number of minutes from 1 to 99");
    for (int minutes = 1; minutes <= 99; minutes += 7) {
      fault("t" + minutes + ";", NONE);
    }
    fault("t9;", NONE);
    fault("t10;", NONE);
    fault("t0;", 1);
    fault("t100;", 1);
    fault("t101;", 1);
    fault("t999;", 1);
    fault("t1000;", 1);
    fault("t9999;", 1);
  }

  private static void faultAtTheFirstCharacter() {
    check.sentence(21, "the index, counted from 0, of the first character with which the text does not follow this form");
    fault("q", 0);
    fault("~", 0);
    fault(" o;", 0);
    fault("o;q", 2);
    fault("t5;o;c3;z;", 8);
    fault("t5;o;c3;+z;", 9);
    fault("+l100@15;+m9999@0;t99;c19;x;o;q", 30);
  }

  private static void faultAtTheLengthIfItEndsTooEarly() {
    check.sentence(21, "or its length if it ends too early");
    String[] texts = {
      "o", "x", "t", "c", "t5", "t99", "c0", "c1", "c19", "+", "+l", "+m1", "+h9999", "+l100@", "+l100@0", "+l100@1",
      "+l100@15", "o;t", "o;+", "t5;x",
    };
    for (String text : texts) {
      fault(text, text.length());
    }
  }

  private static void outOfRangeAtItsFirstDigit() {
    check.sentence(21, "a number that is out of its range");
    fault("t0;", 1);
    fault("t100;", 1);
    fault("c20;", 1);
    fault("+l0@1;", 2);
    fault("+l100@16;", 6);
    // Also if the text has no more, or goes on wrongly behind the number.
    fault("t0", 1);
    fault("t100", 1);
    fault("t100x", 1);
    fault("c20", 1);
    fault("c20q", 1);
    fault("+l0", 2);
    fault("+l0x", 2);
    fault("+l100@16", 6);
    fault("+l100@16@", 6);
  }

  private static void fourDigitsAtMost() {
    check.sentence(21, "all digits that stand there, four at most");
    fault("t12345;", 1);
    fault("t99999999;", 1);
    fault("c1999999;", 1);
    fault("+l100@99999;", 6);
    fault("+l100@10000000000;", 6);
    // Four digits are the number, so that the fifth is behind it.
    fault("+l12345", 6);
    fault("+l12340@1;", 6);
    fault("+l123456@1;", 6);
  }

  private static void zeroAlone() {
    check.sentence(21, "or a 0 alone, if the first one is 0");
    fault("c00;", 2);
    fault("c05;", 2);
    fault("c09", 2);
    fault("c0999;", 2);
    fault("+l100@01;", 7);
    fault("+l100@016;", 7);
    fault("t05;", 1);
    fault("+l0100@1;", 2);
  }

  private static void digitBehindANumber() {
    check.sentence(21, "a digit behind a number that is in its range is a fault itself");
    fault("+l10000@1;", 6);
    fault("+l99990", 6);
    fault("c00", 2);
    fault("+l100@00", 7);
  }

  private static void whetherThereIsSuchPlaysNoPart() {
    check.sentence(21, "Whether there is such a level or aircraft plays no part.");
    HoldingStack x = new HoldingStack();
    Check.write(x, "c0;c19;+l41@15;+l1@4;");
    x.begin(4);
    check.due("faultPosition() with four levels", x.faultPosition(), NONE);
    x.begin(16);
    for (int level = 0; level < 5; level++) {
      x.enter(LIGHT, 900, level);
    }
    check.due("faultPosition() with five aircraft", x.faultPosition(), NONE);
    Check.write(x, "c20;");
    check.due("faultPosition() of 20", x.faultPosition(), 1);
  }

  private static void onlyTheFirstFaultCounts() {
    check.sentence(21, "the first character with which the text does not follow this form");
    fault("t5;c20;o;t0;", 4);
    fault("t5;t0;c20;", 4);
    fault("q;t0;", 0);
    fault("+l0@16;", 2);
    fault("+q0@16", 1);
    fault("+l100@16q", 6);
    fault("o;t", 3);
  }

  private static void textsOfEighty() {
    check.sentence(21, "The text has at most 80 characters.");
    fault("o;".repeat(40), NONE);
    fault("o;".repeat(39) + "oo", 79);
    fault("o;".repeat(39) + "t1", 80);
    fault("o;".repeat(39) + ";o", 78);
    fault("o;".repeat(36) + "+l41@15;", NONE);
    fault("o;".repeat(37) + "+l41@1", 80);
    fault("o;".repeat(39) + "t0", 79);
  }

  private static void faultPositionChangesNothing() {
    check.sentence(21, "Returns the fault position of the text");
    HoldingStack x = new HoldingStack();
    x.enter(LIGHT, 900, 5);
    Check.write(x, "t5;c0;q");
    check.changesNothing(x, "faultPosition()", x::faultPosition, 6);
    check.changesNothing(x, "faultPosition() again", x::faultPosition, 6);
  }

  // ---- promise 22

  private static void runsEachKindOfStrip() {
    check.sentence(22, "Carries out the strips of the text, as by enter(), call(), pass() and setRunway()");
    HoldingStack x = new HoldingStack();
    Check.write(x, "+h500@7;+m200@3;+l900@0;c1;x;t6;o;");
    check.due("run()", x.run(), 7);
    // In minute 3, closed, 1 goes down to level 2, and 0 to level 6.
    check.tells("run()", x, 0, 6, 10, 4, 3, 3, 0, 0, 2, 0, 1);
    check.tellsAircraft("heavy", x, 0, HEAVY, 500 - 3 * 15 - 3 * 16, 0, 6, 3, 0, 0, NONE);
    check.tellsAircraft("medium", x, 1, MEDIUM, 146, 0, 2, 3, 0, 0, NONE);
    check.tellsAircraft("light", x, 2, LIGHT, 876, 0, 0, 3, 0, 0, NONE);
    Check.write(x, "c0;x;c1;");
    check.due("run()", x.run(), 3);
    check.due("0 is called", x.aircraft(0, 5), 1);
    check.due("1 is called", x.aircraft(1, 5), 1);
    check.tells("closed", x, 9, 0);
    Check.write(x, "o;t1;");
    check.due("run()", x.run(), 2);
    check.tells("the light one landed", x, 5, 1);

    HoldingStack y = new HoldingStack();
    y.enter(HEAVY, 500, 7);
    y.enter(MEDIUM, 200, 3);
    y.enter(LIGHT, 900, 0);
    y.call(1);
    y.setRunway(false);
    y.pass(6);
    y.setRunway(true);
    y.call(0);
    y.setRunway(false);
    y.call(1);
    y.setRunway(true);
    y.pass(1);
    // Three runs are three states; two more make the history as full as that of the other one.
    x.setRunway(true);
    x.setRunway(true);
    check.due("checksum() of the same calls", x.checksum(), y.checksum());
  }

  private static void runReturnsTheNumberOfStrips() {
    check.sentence(22, "Returns the number of strips that were carried out");
    HoldingStack x = new HoldingStack();
    check.due("of none", x.run(), 0);
    Check.write(x, "x;");
    check.due("of one", x.run(), 1);
    Check.write(x, "x;x;o;o;o;");
    check.due("of five, some change nothing", x.run(), 5);
    Check.write(x, "+l900@0;t3;t99;");
    check.due("one lands in one of three", x.run(), 3);
  }

  private static void runUpToTheFirstError() {
    check.sentence(22, "up to the first one that would return an error");
    // Aircraft 0 is called and on level 5: there is no 1 or 19, 0 is called already, short, no such level, taken.
    String[] bad = {"c1;", "c19;", "c0;", "+l40@1;", "+l1@1;", "+l100@10;", "+l100@15;", "+h300@5;"};
    for (String strip : bad) {
      HoldingStack x = new HoldingStack();
      x.enter(LIGHT, 900, 5);
      x.call(0);
      Check.write(x, "t1;x;" + strip + "t1;o;+l900@8;");
      check.due("run() up to " + strip, x.run(), 2);
      check.tells("run() up to " + strip, x, 0, 1);
      check.tells("run() up to " + strip, x, 3, 1);
      check.tells("run() up to " + strip, x, 9, 0);
      check.tells("run() up to " + strip, x, 12, 900);
      check.tells("run() up to " + strip, x, 17, 3);
    }
  }

  private static void runOfALastStripThatIsAnError() {
    check.sentence(22, "up to the first one that would return an error");
    HoldingStack x = new HoldingStack();
    // 0 is on level 0; it has landed.
    Check.write(x, "+l900@0;c0;");
    check.due("on level 0", x.run(), 1);
    Check.write(x, "t3;c0;");
    check.due("landed", x.run(), 1);
    x.setLimit(1);
    Check.write(x, "+l900@9;+l900@8;");
    check.due("crowded", x.run(), 1);
    check.tells("crowded", x, 3, 2);
  }

  private static void runOfATextWithAFault() {
    check.sentence(22, "NOT_POSSIBLE if the text has a fault");
    String[] texts = {"q", "t1;x;q", "t1;x", "t1;x;t0;", "t1;c20;", "t1;;", "t1; "};
    for (String text : texts) {
      HoldingStack x = new HoldingStack();
      x.pass(1);
      Check.write(x, text);
      check.changesNothing(x, "run() of '" + text + "'", x::run, NOT_POSSIBLE);
      check.due("the length stays", x.clearText(), text.length());
    }
  }

  private static void runIsRecordedAsOneCall() {
    check.sentence(22, "Recorded as one call");
    HoldingStack x = new HoldingStack();
    x.pass(2);
    Check.write(x, "+l900@1;t3;x;t3;o;c0;");
    check.recorded(x, "run() of six, the last one an error", x::run, 5);
    check.tells("undone", x, 0, 2, 10, 4, 0);
    check.tells("undone", x, 9, 1);
  }

  private static void runIsRecordedIfNoneIsCarriedOut() {
    check.sentence(22, "also if none is carried out");
    HoldingStack x = new HoldingStack();
    check.recorded(x, "run() of an empty text", x::run, 0);
    Check.write(x, "c3;");
    check.recorded(x, "run() of an error", x::run, 0);
    Check.write(x, "+l40@3;t5;");
    check.recorded(x, "run() of one that is refused", x::run, 0);
  }

  private static void runLeavesTheText() {
    check.sentence(22, "The text stays.");
    HoldingStack x = new HoldingStack();
    Check.write(x, "t7;x;");
    check.due("run()", x.run(), 2);
    check.due("run() again", x.run(), 2);
    check.tells("fourteen minutes", x, 0, 14);
    Check.write(x, "c3;t5;");
    check.due("run()", x.run(), 0);
    check.due("clearText()", x.clearText(), 6);
  }

  // As by enter(), and tell(16) is the reason of the latest try to enter: a refused strip sets it, no other error does.
  private static void runSetsTheReason() {
    check.sentence(22, "as by enter()");
    HoldingStack x = new HoldingStack();
    Check.write(x, "+l900@1;t1;+l900@1;");
    check.due("run()", x.run(), 2);
    check.tells("taken", x, 16, HoldingStack.TAKEN, 1);
    x.undo();
    check.tells("undone", x, 16, 0, 0);
    Check.write(x, "+l900@1;+l40@2;");
    check.due("run()", x.run(), 1);
    check.tells("short", x, 16, HoldingStack.SHORT);
    Check.write(x, "+l900@12;");
    check.due("run()", x.run(), 0);
    check.tells("no such level", x, 16, HoldingStack.SHORT);
    Check.write(x, "+l900@2;");
    check.due("run()", x.run(), 1);
    check.tells("entered", x, 16, 0);
  }

  private static void runWithTwentyAircraft() {
    check.sentence(22, "up to the first one that would return an error");
    HoldingStack x = new HoldingStack();
    x.setLap(2);
    Check.write(x, "+l900@0;t2;+l900@0;t2;+l900@0;t2;+l900@0;t2;+l900@0;t2;");
    check.due("five", x.run(), 10);
    check.due("ten", x.run(), 10);
    check.due("fifteen", x.run(), 10);
    check.due("twenty", x.run(), 10);
    check.tells("twenty have landed", x, 3, 20, 0, 20);
    check.due("the 21st", x.run(), 0);
    check.tells("twenty", x, 3, 20);
    check.tells("FULL sets no reason", x, 16, 0);
  }

  private static void runOfFortyStrips() {
    check.sentence(22, "Returns the number of strips that were carried out");
    HoldingStack x = new HoldingStack();
    Check.write(x, "x;".repeat(39) + "o;");
    check.due("forty", x.run(), 40);
    check.tells("the last one", x, 9, 1);
    check.tells("one state", x, 17, 1);
  }
}
