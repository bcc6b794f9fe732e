public final class Promise14MessageTest {
  private static final Checks checks = new Checks("promise 14, message");

  public static void main(String[] args) {
    eachKind();
    readingIsNotCarrying();
    wrongNumbers();
    checks.end();
  }

  private static void eachKind() {
    LeaseGates x = new LeaseGates();
    Scene.fill(x, 6, 100, 0);
    Scene.fill(x, 5, 100, 0);
    x.restart(3);
    Scene.lend(x, 1, 5, 1);
    Scene.lend(x, 3, 6, 10);
    x.take(3, 6, 2);
    x.work(3);
    x.tick(1000);
    x.work(3);
    checks.due("ASK", Scene.message(x, 2), 0, 3, 6, 20, 1, 1, -1);
    checks.due("GRANT", Scene.message(x, 3), 1, 3, 6, 20, 1, 1, 1);
    checks.due("RETURN", Scene.message(x, 4), 2, 3, 6, 18, 1, -1, 1);
    int nothing = Scene.answer(x, Scene.ask(x, 2, 0, 4));
    checks.due("GRANT of nothing", Scene.message(x, nothing), 1, 2, 0, 0, 0, 1, -1);
  }

  private static void readingIsNotCarrying() {
    LeaseGates x = Scene.full(100, 0);
    Scene.answer(x, Scene.ask(x, 0, 0, 10));
    String before = Scene.all(x);
    Scene.message(x, 0);
    Scene.message(x, 1);
    checks.due("all", Scene.all(x), before);
    x.carry(1);
    checks.due("after it was carried", Scene.message(x, 1), 1, 0, 0, 20, 0, 1, 0);
    x.take(0, 0, 5);
    checks.due("after some were spent", x.message(1, 3), 20);
  }

  private static void wrongNumbers() {
    LeaseGates x = Scene.full(100, 0);
    checks.refused(x, "message(0, 0) of none", () -> x.message(0, 0));
    Scene.ask(x, 0, 0, 10);
    checks.refused(x, "message(-1, 0)", () -> x.message(-1, 0));
    checks.refused(x, "message(1, 0)", () -> x.message(1, 0));
    checks.refused(x, "message(300, 0)", () -> x.message(300, 0));
    checks.refused(x, "message(0, -1)", () -> x.message(0, -1));
    checks.refused(x, "message(0, 7)", () -> x.message(0, 7));
    x.drop(0);
    checks.refused(x, "message of what was dropped", () -> x.message(0, 0));
  }
}
