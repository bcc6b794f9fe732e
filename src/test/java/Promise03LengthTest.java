public final class Promise03LengthTest {
  private static final Checks checks = new Checks("promise 3, length");

  public static void main(String[] args) {
    loansEnd();
    earlierLoansStay();
    sameGrantKeepsItsLength();
    holdsAreLiveForLess(10, 9);
    holdsAreLiveForLess(501, 499);
    holdsAreLiveForLess(1000, 998);
    holdsAreLiveForLess(9000, 8982);
    wrongNumbers();
    checks.end();
  }

  private static void loansEnd() {
    int[] lengths = {10, 11, 2001, 4999};
    for (int length : lengths) {
      LeaseGates x = Scene.full(10, 0);
      x.length(length);
      Scene.lend(x, 0, 0, 1);
      x.tick(length - 1);
      checks.due("LENT before the end of " + length, x.root(0, 2), 2);
      x.tick(1);
      checks.due("LENT at the end of " + length, x.root(0, 2), 0);
    }
  }

  private static void earlierLoansStay() {
    LeaseGates x = Scene.full(10, 0);
    int ask = Scene.ask(x, 0, 0, 1);
    x.length(100);
    Scene.answer(x, ask);
    x.length(50);
    x.tick(99);
    checks.due("the LENGTH when it was granted", x.root(0, 3), 1);
    x.tick(1);
    checks.due("its end", x.root(0, 3), 0);
  }

  private static void sameGrantKeepsItsLength() {
    LeaseGates x = Scene.full(10, 0);
    x.length(100);
    int ask = Scene.ask(x, 0, 0, 1);
    Scene.answer(x, ask);
    x.length(9000);
    int again = Scene.answer(x, ask);
    x.carry(again);
    x.tick(98);
    checks.due("LIVE for 99 alone", x.gate(0, 0, 0), 2);
    x.tick(1);
    checks.due("not LIVE any more", x.gate(0, 0, 0), 0);
  }

  private static void holdsAreLiveForLess(int length, int span) {
    LeaseGates x = Scene.full(10, 0);
    x.length(length);
    Scene.lend(x, 0, 0, 1);
    int left = span - 1;
    while (left > 5000) {
      x.tick(5000);
      left -= 5000;
    }
    x.tick(left);
    checks.due("LIVE before " + span, x.gate(0, 0, 0), 2);
    x.tick(1);
    checks.due("LIVE at " + span, x.gate(0, 0, 0), 0);
    checks.due("HOLDS at " + span, x.gate(0, 0, 1), 1);
  }

  private static void wrongNumbers() {
    LeaseGates x = Scene.full(10, 0);
    x.length(70);
    int[] wrong = {9, 9001, 0, -1, Integer.MIN_VALUE, Integer.MAX_VALUE};
    for (int length : wrong) {
      checks.refused(x, "length(" + length + ")", () -> x.length(length));
    }
    Scene.lend(x, 0, 0, 1);
    x.tick(69);
    checks.due("LOANS before the LENGTH of before", x.root(0, 3), 1);
    x.tick(1);
    checks.due("LOANS at the LENGTH of before", x.root(0, 3), 0);
  }
}
