public final class Promise10TickTest {
  private static final Checks checks = new Checks("promise 10, tick");

  public static void main(String[] args) {
    allClocksGoOn();
    loansAreOverBeforeTheLevelGrows();
    severalLoansEndInOneTick();
    oneLongTickIsManyShortOnes();
    nothingElseChanges();
    wrongNumbers();
    checks.end();
  }

  private static void allClocksGoOn() {
    LeaseGates x = new LeaseGates();
    x.tick(1);
    x.tick(5000);
    for (int gate = LeaseGates.NONE; gate < 6; gate++) {
      checks.due("clock of " + gate, x.clock(gate), 5001);
    }
  }

  private static void loansAreOverBeforeTheLevelGrows() {
    LeaseGates x = Scene.full(10, 3000);
    Scene.lend(x, 0, 0, 4);
    checks.due("lent", Scene.root(x, 0), 0, 2000, 8, 1);
    x.tick(1999);
    checks.due("full but for the LOAN", Scene.root(x, 0), 0, 2000, 8, 1);
    x.tick(1);
    checks.due("over, and one step", Scene.root(x, 0), 0, 5000, 0, 0);
    x.tick(1);
    checks.due("two steps", x.root(0, 1), 8000);
    x.tick(1);
    checks.due("full", x.root(0, 1), 10000);
    LeaseGates y = Scene.full(10, 3000);
    Scene.lend(y, 0, 0, 4);
    y.tick(2001);
    checks.due("two steps in one tick", Scene.root(y, 0), 0, 8000, 0, 0);
  }

  private static void severalLoansEndInOneTick() {
    LeaseGates x = Scene.full(100, 0);
    x.length(300);
    Scene.lend(x, 0, 0, 10);
    x.length(100);
    Scene.lend(x, 1, 0, 20);
    x.length(200);
    Scene.lend(x, 2, 0, 15);
    Scene.lend(x, 3, 0, 1);
    checks.due("lent", Scene.root(x, 0), 0, 8000, 92, 4);
    x.key(0, 100, 100);
    x.tick(99);
    checks.due("none is over", Scene.root(x, 0), 0, 8000, 92, 4);
    x.tick(151);
    checks.due("three are over", Scene.root(x, 0), 0, 23100, 20, 1);
    x.tick(50);
    checks.due("all are over", Scene.root(x, 0), 0, 28100, 0, 0);
  }

  private static void oneLongTickIsManyShortOnes() {
    LeaseGates x = manyLoans();
    LeaseGates y = manyLoans();
    x.tick(400);
    for (int i = 0; i < 400; i++) {
      y.tick(1);
    }
    checks.due("one tick or many", Scene.all(x), Scene.all(y));
  }

  private static LeaseGates manyLoans() {
    LeaseGates x = Scene.full(100, 177);
    for (int gate = 0; gate < 6; gate++) {
      x.length(90 - 13 * gate);
      x.speed(gate, 999 + gate % 3);
      Scene.lend(x, gate, 0, 7 + gate);
    }
    return x;
  }

  private static void nothingElseChanges() {
    LeaseGates x = Scene.full(100, 0);
    Scene.ask(x, 0, 0, 10);
    x.tick(5000);
    checks.due("the gate", Scene.gate(x, 0, 0), 0, 0, 10, 0, 1, 1, 1);
    checks.due("sent", x.sent(), 1);
  }

  private static void wrongNumbers() {
    LeaseGates x = Scene.full(100, 10);
    int[] wrong = {0, -1, 5001, Integer.MAX_VALUE, Integer.MIN_VALUE};
    for (int milliseconds : wrong) {
      checks.refused(x, "tick(" + milliseconds + ")", () -> x.tick(milliseconds));
    }
  }
}
