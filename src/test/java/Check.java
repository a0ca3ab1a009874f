/** Compares answers with those that are due, and ends a test with exit code 1 if one differs. */
final class Check {
  private int wrong = 0;
  private int asked = 0;

  void due(String call, long got, long want) {
    asked++;
    if (got != want) {
      wrong++;
      System.out.println(call + " answered " + got + ", due is " + want);
    }
  }

  /** Compares tell() of first, first + 1 and so on. */
  void tells(String when, HoldingStack stack, int first, int... wants) {
    for (int i = 0; i < wants.length; i++) {
      due(when + ": tell(" + (first + i) + ")", stack.tell(first + i), wants[i]);
    }
  }

  /** Compares aircraft() of 0 to 7. */
  void tellsAircraft(String when, HoldingStack stack, int aircraft, int... wants) {
    for (int what = 0; what < wants.length; what++) {
      due(when + ": aircraft(" + aircraft + ", " + what + ")", stack.aircraft(aircraft, what), wants[what]);
    }
  }

  /** After a successful call the history must have one state more, five at most. */
  void recorded(String call, HoldingStack stack, int statesBefore) {
    due(call + " is recorded", stack.tell(17), Math.min(5, statesBefore + 1));
  }

  static void write(HoldingStack stack, String text) {
    stack.clearText();
    for (int i = 0; i < text.length(); i++) {
      stack.append(text.charAt(i));
    }
  }

  void finish() {
    System.out.println(asked + " answers, " + wrong + " not as due");
    if (wrong != 0) {
      System.exit(1);
    }
  }
}
