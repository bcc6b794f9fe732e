public final class Promise11RestartTest {
  private static final Checks checks = new Checks("promise 11, restart");

  public static void main(String[] args) {
    allIsForgotten();
    clockSpeedAndBirthStay();
    othersStay();
    askAtOnce();
    wrongNumbers();
    checks.end();
  }

  private static void allIsForgotten() {
    LeaseGates x = Scene.full(100, 0);
    Scene.fill(x, 7, 100, 0);
    Scene.lend(x, 0, 0, 10);
    Scene.lend(x, 0, 7, 10);
    x.take(0, 0, 3);
    x.take(0, 7, 50);
    x.work(0);
    x.take(0, 0, 200);
    checks.due("BIRTH", x.restart(0), 1);
    for (int key = 0; key < 8; key++) {
      checks.due("key " + key, Scene.gate(x, 0, key), 0, 0, 0, 0, 0, 0, 0);
    }
    checks.due("the ROOT forgets nothing", Scene.root(x, 0), 3, 80000, 20, 1);
    checks.due("nothing is given back", x.work(0), 0);
    checks.due("no token is left", x.take(0, 0, 1), false);
  }

  private static void clockSpeedAndBirthStay() {
    LeaseGates x = new LeaseGates();
    x.speed(2, 1001);
    x.tick(1500);
    checks.due("first", x.restart(2), 1);
    checks.due("CLOCK", x.clock(2), 1501);
    x.tick(500);
    checks.due("SPEED, and thousandths of before", x.clock(2), 2002);
    checks.due("second", x.restart(2), 2);
    checks.due("another gate's first", x.restart(3), 1);
    x.take(2, 0, 1);
    x.work(2);
    checks.due("BIRTH in an ASK", x.message(0, 4), 2);
  }

  private static void othersStay() {
    LeaseGates x = Scene.full(100, 0);
    Scene.lend(x, 0, 0, 10);
    x.restart(1);
    checks.due("another gate", Scene.gate(x, 0, 0), 20, 1, 10, 0, 1, 0, 1);
  }

  private static void askAtOnce() {
    LeaseGates x = new LeaseGates();
    Scene.ask(x, 0, 0, 10);
    x.restart(0);
    x.take(0, 0, 10);
    checks.due("no ask is OPEN", x.work(0), 1);
    checks.due("COUNT starts anew", x.message(1, 5), 1);
    checks.due("DEMAND starts anew", x.message(1, 3), 20);
  }

  private static void wrongNumbers() {
    LeaseGates x = Scene.full(100, 0);
    Scene.lend(x, 0, 0, 10);
    checks.refused(x, "restart(-1)", () -> x.restart(-1));
    checks.refused(x, "restart(6)", () -> x.restart(6));
    checks.due("BIRTH", x.restart(0), 1);
  }
}
