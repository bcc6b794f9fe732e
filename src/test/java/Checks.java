import java.util.Arrays;

/** Compares answers with those that are due, and ends the program with 1 if one was wrong. */
final class Checks {
  private final String name;
  private int wrong = 0;

  Checks(String name) {
    this.name = name;
  }

  void due(String what, long got, long want) {
    if (got != want) {
      tell(what + " answered " + got + ", due is " + want);
    }
  }

  void due(String what, boolean got, boolean want) {
    due(what, got ? 1 : 0, want ? 1 : 0);
  }

  void due(String what, int[] got, int... want) {
    if (!Arrays.equals(got, want)) {
      tell(what + " answered " + Arrays.toString(got) + ", due is " + Arrays.toString(want));
    }
  }

  void due(String what, String got, String want) {
    if (!got.equals(want)) {
      tell(what + " answered " + got + ", due is " + want);
    }
  }

  /** The call throws IllegalArgumentException and leaves all that can be read as it was. */
  void refused(LeaseGates x, String what, Runnable call) {
    String before = Scene.all(x);
    String thrown = "nothing";
    try {
      call.run();
    } catch (RuntimeException e) {
      thrown = e.getClass().getSimpleName();
    }
    due(what + " throws", thrown, "IllegalArgumentException");
    due(what + " leaves", Scene.all(x), before);
  }

  void tell(String text) {
    wrong++;
    System.out.println(name + ": " + text);
  }

  void end() {
    if (wrong > 0) {
      System.exit(1);
    }
  }
}
