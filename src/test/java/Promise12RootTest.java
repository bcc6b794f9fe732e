public final class Promise12RootTest {
  private static final Checks checks = new Checks("promise 12, root");

  public static void main(String[] args) {
    spentIsSummedOverGates();
    lentAndLoans();
    wrongNumbers();
    checks.end();
  }

  private static void spentIsSummedOverGates() {
    LeaseGates x = Scene.full(100, 0);
    Scene.lend(x, 0, 0, 10);
    Scene.lend(x, 1, 0, 10);
    checks.due("lent, but not granted at a gate", x.root(0, 0), 0);
    x.take(0, 0, 7);
    x.take(1, 0, 8);
    x.take(1, 0, 80);
    checks.due("what was granted", x.root(0, 0), 15);
    x.restart(0);
    x.tick(5000);
    checks.due("what was granted so far", x.root(0, 0), 15);
    checks.due("of another key", x.root(1, 0), 0);
  }

  private static void lentAndLoans() {
    LeaseGates x = Scene.full(100, 0);
    Scene.fill(x, 3, 50, 0);
    Scene.lend(x, 0, 0, 10);
    x.tick(100);
    Scene.lend(x, 1, 0, 4);
    Scene.lend(x, 1, 3, 2);
    checks.due("key 0", Scene.root(x, 0), 0, 72000, 28, 2);
    checks.due("key 3", Scene.root(x, 3), 0, 46000, 4, 1);
    checks.due("key 1", Scene.root(x, 1), 0, 0, 0, 0);
    x.take(0, 0, 20);
    checks.due("what is spent is still LENT", Scene.root(x, 0), 20, 72000, 28, 2);
    x.tick(1900);
    checks.due("one LOAN is over", Scene.root(x, 0), 20, 72000, 8, 1);
  }

  private static void wrongNumbers() {
    LeaseGates x = Scene.full(100, 0);
    checks.refused(x, "root(-1, 0)", () -> x.root(-1, 0));
    checks.refused(x, "root(8, 0)", () -> x.root(8, 0));
    checks.refused(x, "root(0, -1)", () -> x.root(0, -1));
    checks.refused(x, "root(0, 4)", () -> x.root(0, 4));
  }
}
