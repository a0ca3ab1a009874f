import java.util.function.IntSupplier;

/** Compares answers with those that are due, and ends a test with exit code 1 if one differs. */
final class Check {
  private int wrong = 0;
  private int asked = 0;
  private String sentence = "";

  /** The promise, and the words of the document, that the answers from here on test. */
  void sentence(int promise, String words) {
    sentence = "promise " + promise + ", \"" + words + "\": ";
  }

  void due(String call, long got, long want) {
    asked++;
    if (got != want) {
      wrong++;
      System.out.println(sentence + call + " answered " + got + ", due is " + want);
    }
  }

  /** Compares tell() of first, first + 1 and so on. */
  void tells(String when, HoldingStack stack, int first, int... wants) {
    for (int i = 0; i < wants.length; i++) {
      due(when + ": tell(" + (first + i) + ")", stack.tell(first + i), wants[i]);
    }
  }

  /** Compares aircraft() of 0 to 7. */
  void tellsAircraft(String when, HoldingStack stack, int aircraft, int... wants) {
    for (int what = 0; what < wants.length; what++) {
      due(when + ": aircraft(" + aircraft + ", " + what + ")", stack.aircraft(aircraft, what), wants[what]);
    }
  }

  /** The call answers so, and nothing of the state or the text is different then. */
  void changesNothing(HoldingStack stack, String name, IntSupplier call, int want) {
    long sum = stack.checksum();
    int fault = stack.faultPosition();
    due(name, call.getAsInt(), want);
    due(name + " changes nothing, checksum()", stack.checksum(), sum);
    due(name + " changes nothing, faultPosition()", stack.faultPosition(), fault);
  }

  /** The call answers so, and undo() brings back what was before it. The history must not be full, or it is shorter then. */
  void recorded(HoldingStack stack, String name, IntSupplier call, int want) {
    long sum = stack.checksum();
    int states = stack.tell(17);
    due(name, call.getAsInt(), want);
    due(name + " is recorded, tell(17)", stack.tell(17), states + 1);
    due("undo() of " + name, stack.undo(), states);
    due("checksum() after undo() of " + name, stack.checksum(), sum);
  }

  static void write(HoldingStack stack, String text) {
    stack.clearText();
    for (int i = 0; i < text.length(); i++) {
      stack.append(text.charAt(i));
    }
  }

  void finish() {
    System.out.println(asked + " answers, " + wrong + " not as due");
    if (wrong != 0) {
      System.exit(1);
    }
  }
}
