public final class Promise04WeightTest {
  private static final Checks checks = new Checks("promise 4, weight");

  public static void main(String[] args) {
    sharesGoByWeight();
    enoughForAll();
    onlyLateAsksCount();
    asksAgainDoNotCount();
    restartsKeepWhenAGateAsked();
    weightsAreOfGateAndKey();
    wrongNumbers();
    checks.end();
  }

  /** What gate 0 gets of the free tokens when it asks for more than there are. */
  private static int shareOfGate0(LeaseGates x) {
    return x.message(Scene.answer(x, Scene.ask(x, 0, 0, 10000)), 3);
  }

  /** Gates 1 and on ask for key 0 while there is nothing. */
  private static LeaseGates othersAsked(int... weights) {
    LeaseGates x = new LeaseGates();
    for (int i = 0; i < weights.length; i++) {
      x.weight(i + 1, 0, weights[i]);
      Scene.answer(x, Scene.ask(x, i + 1, 0, 1));
    }
    return x;
  }

  private static void sharesGoByWeight() {
    LeaseGates x = othersAsked(1);
    x.weight(0, 0, 3);
    Scene.fill(x, 0, 99, 0);
    checks.due("three of four parts of 99", shareOfGate0(x), 74);
    LeaseGates y = othersAsked(100, 100, 100, 100, 100);
    Scene.fill(y, 0, 100, 0);
    checks.due("a part that is below 1", shareOfGate0(y), 0);
    checks.due("no LOAN of nothing", Scene.root(y, 0), 0, 100000, 0, 0);
    LeaseGates z = new LeaseGates();
    z.weight(0, 0, 100);
    Scene.fill(z, 0, 100, 0);
    checks.due("alone", shareOfGate0(z), 100);
    LeaseGates w = new LeaseGates();
    w.key(0, 100000, 1000000);
    w.tick(5000);
    w.tick(5000);
    w.weight(0, 0, 100);
    for (int i = 0; i < 60; i++) {
      w.take(0, 0, 10000);
    }
    w.weight(1, 0, 99);
    w.carry(Scene.ask(w, 1, 0, 5));
    w.work(0);
    w.carry(2);
    checks.due("of the greatest bucket", w.message(3, 3), 999990 * 100 / 199);
  }

  private static void enoughForAll() {
    LeaseGates x = othersAsked(100);
    Scene.fill(x, 0, 100, 0);
    int all = Scene.answer(x, Scene.ask(x, 0, 0, 50));
    checks.due("as much as is free", x.message(all, 3), 100);
  }

  private static void onlyLateAsksCount() {
    LeaseGates x = othersAsked(4);
    x.tick(998);
    Scene.fill(x, 0, 100, 0);
    checks.due("999 ago", shareOfGate0(x), 20);
    LeaseGates y = othersAsked(4);
    y.tick(999);
    Scene.fill(y, 0, 100, 0);
    checks.due("1000 ago", shareOfGate0(y), 100);
    LeaseGates z = othersAsked(4);
    z.speed(LeaseGates.NONE, 999);
    z.tick(999);
    Scene.fill(z, 0, 100, 0);
    checks.due("999 of the ROOT's CLOCK ago", shareOfGate0(z), 20);
  }

  private static void asksAgainDoNotCount() {
    LeaseGates x = othersAsked(4);
    x.tick(500);
    x.carry(0);
    x.tick(499);
    Scene.fill(x, 0, 100, 0);
    checks.due("asked again 500 ago", shareOfGate0(x), 100);
  }

  private static void restartsKeepWhenAGateAsked() {
    LeaseGates x = othersAsked(4);
    x.restart(1);
    Scene.answer(x, Scene.ask(x, 1, 3, 1));
    Scene.fill(x, 0, 100, 0);
    checks.due("a gate that asked before its restart", shareOfGate0(x), 20);
    LeaseGates y = new LeaseGates();
    y.weight(0, 0, 3);
    y.restart(0);
    Scene.answer(y, Scene.ask(y, 1, 0, 1));
    Scene.fill(y, 0, 100, 0);
    checks.due("a WEIGHT stays", shareOfGate0(y), 75);
  }

  private static void weightsAreOfGateAndKey() {
    LeaseGates x = othersAsked(1);
    x.weight(0, 1, 50);
    x.weight(2, 0, 50);
    Scene.answer(x, Scene.ask(x, 2, 1, 1));
    Scene.fill(x, 0, 100, 0);
    checks.due("WEIGHTS of others", shareOfGate0(x), 50);
    LeaseGates y = othersAsked(1);
    y.weight(1, 0, 9);
    Scene.fill(y, 0, 100, 0);
    checks.due("a WEIGHT that is new since the ask", shareOfGate0(y), 10);
  }

  private static void wrongNumbers() {
    LeaseGates x = othersAsked(1);
    x.weight(0, 0, 4);
    checks.refused(x, "weight(-1, 0, 1)", () -> x.weight(-1, 0, 1));
    checks.refused(x, "weight(6, 0, 1)", () -> x.weight(6, 0, 1));
    checks.refused(x, "weight(0, -1, 1)", () -> x.weight(0, -1, 1));
    checks.refused(x, "weight(0, 8, 1)", () -> x.weight(0, 8, 1));
    checks.refused(x, "weight(0, 0, 0)", () -> x.weight(0, 0, 0));
    checks.refused(x, "weight(0, 0, 101)", () -> x.weight(0, 0, 101));
    checks.refused(x, "weight(0, 0, -3)", () -> x.weight(0, 0, -3));
    Scene.fill(x, 0, 100, 0);
    checks.due("the WEIGHT of before", shareOfGate0(x), 80);
  }
}
