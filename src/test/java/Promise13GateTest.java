public final class Promise13GateTest {
  private static final Checks checks = new Checks("promise 13, gate");

  public static void main(String[] args) {
    eachNumber();
    liveAndNotLive();
    wrongNumbers();
    checks.end();
  }

  private static void eachNumber() {
    LeaseGates x = Scene.full(100, 0);
    x.take(5, 0, 3);
    checks.due("USE and a refusal", Scene.gate(x, 5, 0), 0, 0, 0, 3, 0, 0, 1);
    x.work(5);
    checks.due("DEMAND, COUNT, OPEN", Scene.gate(x, 5, 0), 0, 0, 3, 0, 1, 1, 1);
    x.carry(0);
    checks.due("the ROOT's doing", Scene.gate(x, 5, 0), 0, 0, 3, 0, 1, 1, 1);
    x.carry(1);
    checks.due("LIVE and a HOLD", Scene.gate(x, 5, 0), 6, 1, 3, 0, 1, 0, 1);
    x.take(5, 0, 2);
    checks.due("granted", Scene.gate(x, 5, 0), 4, 1, 3, 2, 1, 0, 0);
    checks.due("another gate", Scene.gate(x, 4, 0), 0, 0, 0, 0, 0, 0, 0);
    checks.due("another key", Scene.gate(x, 5, 1), 0, 0, 0, 0, 0, 0, 0);
  }

  private static void liveAndNotLive() {
    LeaseGates x = Scene.full(100, 0);
    Scene.lend(x, 0, 0, 3);
    x.tick(100);
    Scene.lend(x, 0, 0, 4);
    checks.due("two HOLDS", Scene.gate(x, 0, 0), 10, 2, 5, 0, 2, 0, 0);
    x.tick(1895);
    checks.due("both LIVE", x.gate(0, 0, 0), 10);
    x.tick(1);
    checks.due("one LIVE", x.gate(0, 0, 0), 8);
    checks.due("HOLDS, LIVE or not", x.gate(0, 0, 1), 2);
  }

  private static void wrongNumbers() {
    LeaseGates x = Scene.full(100, 0);
    checks.refused(x, "gate(-1, 0, 0)", () -> x.gate(-1, 0, 0));
    checks.refused(x, "gate(6, 0, 0)", () -> x.gate(6, 0, 0));
    checks.refused(x, "gate(0, -1, 0)", () -> x.gate(0, -1, 0));
    checks.refused(x, "gate(0, 8, 0)", () -> x.gate(0, 8, 0));
    checks.refused(x, "gate(0, 0, -1)", () -> x.gate(0, 0, -1));
    checks.refused(x, "gate(0, 0, 7)", () -> x.gate(0, 0, 7));
  }
}
