public final class Promise05SpeedTest {
  private static final Checks checks = new Checks("promise 5, speed");

  public static void main(String[] args) {
    clocksGoTheirOwnWay();
    thousandthsAreKept();
    rootsSpeedFillsAndEnds();
    gatesSpeedEndsHolds();
    wrongNumbers();
    checks.end();
  }

  private static void clocksGoTheirOwnWay() {
    LeaseGates x = new LeaseGates();
    x.speed(0, 999);
    x.speed(5, 1001);
    x.tick(1000);
    checks.due("the ROOT", x.clock(LeaseGates.NONE), 1000);
    checks.due("999", x.clock(0), 999);
    checks.due("1000", x.clock(1), 1000);
    checks.due("1001", x.clock(5), 1001);
    x.speed(LeaseGates.NONE, 1001);
    x.speed(0, 1001);
    x.speed(5, 1000);
    x.tick(2000);
    checks.due("the ROOT, faster", x.clock(LeaseGates.NONE), 3002);
    checks.due("999, then 1001", x.clock(0), 3001);
    checks.due("1001, then 1000", x.clock(5), 3001);
  }

  private static void thousandthsAreKept() {
    LeaseGates x = new LeaseGates();
    x.speed(0, 999);
    x.tick(1);
    checks.due("0.999", x.clock(0), 0);
    x.speed(0, 1001);
    x.tick(1);
    checks.due("2.000", x.clock(0), 2);
    x.speed(0, 999);
    for (int i = 0; i < 500; i++) {
      x.tick(1);
    }
    checks.due("501.500", x.clock(0), 501);
  }

  private static void rootsSpeedFillsAndEnds() {
    LeaseGates x = new LeaseGates();
    x.key(0, 10, 1000);
    x.speed(LeaseGates.NONE, 999);
    x.tick(1);
    checks.due("no millisecond has gone by", x.root(0, 1), 0);
    x.tick(999);
    checks.due("999 have gone by", x.root(0, 1), 9990);
    x.key(0, 0, 1000);
    Scene.lend(x, 0, 0, 1);
    x.tick(2000);
    checks.due("1998 of 2000", x.root(0, 3), 1);
    x.tick(2);
    checks.due("1999 of 2000", x.root(0, 3), 1);
    x.tick(1);
    checks.due("2000 of 2000", x.root(0, 3), 0);
  }

  private static void gatesSpeedEndsHolds() {
    LeaseGates x = Scene.full(10, 0);
    x.speed(0, 999);
    Scene.lend(x, 0, 0, 1);
    x.tick(1997);
    checks.due("1995.003 of 1996", x.gate(0, 0, 0), 2);
    x.tick(1);
    checks.due("1996.002 of 1996", x.gate(0, 0, 0), 0);
    checks.due("the LOAN outlasts it", x.root(0, 3), 1);
  }

  private static void wrongNumbers() {
    LeaseGates x = new LeaseGates();
    checks.refused(x, "speed(-2, 1000)", () -> x.speed(-2, 1000));
    checks.refused(x, "speed(6, 1000)", () -> x.speed(6, 1000));
    checks.refused(x, "speed(0, 998)", () -> x.speed(0, 998));
    checks.refused(x, "speed(0, 1002)", () -> x.speed(0, 1002));
    checks.refused(x, "speed(-1, 998)", () -> x.speed(-1, 998));
    checks.refused(x, "speed(-1, 0)", () -> x.speed(-1, 0));
    x.tick(3000);
    for (int gate = LeaseGates.NONE; gate < 6; gate++) {
      checks.due("the SPEED of before", x.clock(gate), 3000);
    }
  }
}
