public final class Promise16ClockTest {
  private static final Checks checks = new Checks("promise 16, clock");

  public static void main(String[] args) {
    roundedDown();
    farOn();
    wrongNumbers();
    checks.end();
  }

  private static void roundedDown() {
    LeaseGates x = new LeaseGates();
    x.speed(4, 999);
    x.speed(LeaseGates.NONE, 1001);
    x.tick(999);
    checks.due("998.001", x.clock(4), 998);
    checks.due("999.999", x.clock(LeaseGates.NONE), 999);
    checks.due("999", x.clock(0), 999);
    x.tick(1);
    checks.due("999.000", x.clock(4), 999);
    checks.due("1001.000", x.clock(LeaseGates.NONE), 1001);
    checks.due("1000", x.clock(0), 1000);
  }

  private static void farOn() {
    LeaseGates x = new LeaseGates();
    x.speed(0, 1001);
    x.speed(1, 999);
    for (int i = 0; i < 500; i++) {
      x.tick(5000);
    }
    checks.due("the ROOT", x.clock(LeaseGates.NONE), 2500000);
    checks.due("faster", x.clock(0), 2502500);
    checks.due("slower", x.clock(1), 2497500);
  }

  private static void wrongNumbers() {
    LeaseGates x = new LeaseGates();
    x.tick(5);
    checks.refused(x, "clock(-2)", () -> x.clock(-2));
    checks.refused(x, "clock(6)", () -> x.clock(6));
    checks.refused(x, "clock of the least", () -> x.clock(Integer.MIN_VALUE));
    checks.refused(x, "clock of the greatest", () -> x.clock(Integer.MAX_VALUE));
  }
}
