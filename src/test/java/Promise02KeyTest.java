public final class Promise02KeyTest {
  private static final Checks checks = new Checks("promise 2, key");

  public static void main(String[] args) {
    levelGrowsByRate();
    levelStopsAtBurst();
    levelIsKeptOrCut();
    burstBelowLent();
    keysAreApart();
    wrongNumbers();
    checks.end();
  }

  private static void levelGrowsByRate() {
    LeaseGates x = new LeaseGates();
    x.key(0, 7, 1000);
    checks.due("at once", x.root(0, 1), 0);
    x.tick(1);
    checks.due("after 1", x.root(0, 1), 7);
    x.tick(99);
    checks.due("after 100", x.root(0, 1), 700);
    x.key(0, 0, 1000);
    x.tick(100);
    checks.due("with RATE 0", x.root(0, 1), 700);
  }

  private static void levelStopsAtBurst() {
    LeaseGates x = new LeaseGates();
    x.key(0, 7, 1);
    x.tick(142);
    checks.due("a step below", x.root(0, 1), 994);
    x.tick(1);
    checks.due("a last step that is too long", x.root(0, 1), 1000);
    x.key(1, 100000, 1000000);
    x.tick(5000);
    x.tick(4999);
    checks.due("greatest, a step below", x.root(1, 1), 999900000);
    x.tick(5000);
    checks.due("greatest", x.root(1, 1), 1000000000);
    x.key(2, 100000, 0);
    x.tick(5);
    checks.due("BURST 0", x.root(2, 1), 0);
  }

  private static void levelIsKeptOrCut() {
    LeaseGates x = Scene.full(50, 0);
    x.key(0, 0, 80);
    checks.due("a greater BURST", x.root(0, 1), 50000);
    x.key(0, 0, 50);
    checks.due("the same BURST", x.root(0, 1), 50000);
    x.key(0, 0, 49);
    checks.due("a smaller BURST", x.root(0, 1), 49000);
    x.key(0, 0, 50);
    checks.due("what is gone", x.root(0, 1), 49000);
  }

  private static void burstBelowLent() {
    LeaseGates x = Scene.full(50, 0);
    Scene.lend(x, 0, 0, 10);
    checks.due("after a loan of 20", Scene.root(x, 0), 0, 30000, 20, 1);
    x.key(0, 1000, 25);
    checks.due("BURST 25, LENT 20", x.root(0, 1), 5000);
    x.key(0, 1000, 19);
    checks.due("BURST 19, LENT 20", Scene.root(x, 0), 0, 0, 20, 1);
    x.tick(100);
    checks.due("no growth", x.root(0, 1), 0);
    x.key(0, 1000, 22);
    x.tick(100);
    checks.due("BURST 22, LENT 20", x.root(0, 1), 2000);
  }

  private static void keysAreApart() {
    LeaseGates x = new LeaseGates();
    for (int key = 0; key < 8; key++) {
      x.key(key, key, 10);
    }
    x.tick(10);
    for (int key = 0; key < 8; key++) {
      checks.due("LEVEL of " + key, x.root(key, 1), 10 * key);
    }
  }

  private static void wrongNumbers() {
    LeaseGates x = Scene.full(50, 10);
    checks.refused(x, "key(-1, 1, 1)", () -> x.key(-1, 1, 1));
    checks.refused(x, "key(8, 1, 1)", () -> x.key(8, 1, 1));
    checks.refused(x, "rate -1", () -> x.key(0, -1, 1));
    checks.refused(x, "rate 100001", () -> x.key(0, 100001, 1));
    checks.refused(x, "burst -1", () -> x.key(0, 1, -1));
    checks.refused(x, "burst 1000001", () -> x.key(0, 1, 1000001));
    Scene.lend(x, 0, 0, 5);
    x.tick(100);
    checks.due("RATE and BURST are those of before", x.root(0, 1), 40000);
  }
}
