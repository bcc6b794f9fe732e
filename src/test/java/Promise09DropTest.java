public final class Promise09DropTest {
  private static final Checks checks = new Checks("promise 9, drop");

  public static void main(String[] args) {
    droppedIsGone();
    wrongNumbers();
    checks.end();
  }

  private static void droppedIsGone() {
    LeaseGates x = Scene.full(100, 0);
    int ask = Scene.ask(x, 0, 0, 10);
    x.carry(ask);
    x.carry(ask);
    x.drop(1);
    checks.refused(x, "drop twice", () -> x.drop(1));
    checks.refused(x, "carry it", () -> x.carry(1));
    checks.refused(x, "read it", () -> x.message(1, 0));
    checks.due("sent", x.sent(), 3);
    checks.due("its twin stays", x.carry(2), true);
    checks.due("the same is sent again under a new number", x.carry(ask), true);
    checks.due("that number", Scene.message(x, 3), 1, 0, 0, 20, 0, 1, 0);
    x.drop(ask);
    checks.due("the ROOT keeps what it lent", Scene.root(x, 0), 0, 80000, 20, 1);
    checks.due("the gate keeps what it holds", Scene.gate(x, 0, 0), 20, 1, 10, 0, 1, 0, 1);
    checks.due("next number", Scene.ask(x, 1, 0, 1), 4);
  }

  private static void wrongNumbers() {
    LeaseGates x = new LeaseGates();
    checks.refused(x, "drop(0) of none", () -> x.drop(0));
    Scene.ask(x, 0, 0, 1);
    checks.refused(x, "drop(-1)", () -> x.drop(-1));
    checks.refused(x, "drop(1)", () -> x.drop(1));
    checks.refused(x, "drop(300)", () -> x.drop(300));
    checks.refused(x, "drop of the least", () -> x.drop(Integer.MIN_VALUE));
  }
}
