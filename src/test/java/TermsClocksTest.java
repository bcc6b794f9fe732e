/** The document's terms, edge by edge: clocks and speeds. */
public final class TermsClocksTest {
  private static final Checks checks = new Checks("terms, clocks");

  public static void main(String[] args) {
    eachSpeedOfEachClock();
    slowClockIsRoundedDown();
    fastClockIsRoundedDown();
    thousandthsOutliveASpeed();
    rootThatIsSlowEndsLoansLater();
    rootThatStandsStillFillsNothing();
    loanEndsInAMillisecondThatIsLeaptOver();
    holdEndsInAMillisecondThatIsLeaptOver();
    shortestAndLongestTick();
    checks.end();
  }

  /** "a SPEED, 999 .. 1001 (1000 at first)": of each of the seven, and of no other. */
  private static void eachSpeedOfEachClock() {
    for (int who = LeaseGates.NONE; who < 6; who++) {
      for (int speed = 999; speed <= 1001; speed++) {
        LeaseGates x = new LeaseGates();
        x.speed(who, speed);
        x.tick(1);
        for (int other = LeaseGates.NONE; other < 6; other++) {
          checks.due(who + " at " + speed + ": clock of " + other + " at 1", x.clock(other),
              other == who ? speed / 1000 : 1);
        }
        x.tick(999);
        for (int other = LeaseGates.NONE; other < 6; other++) {
          checks.due(who + " at " + speed + ": clock of " + other + " at 1000", x.clock(other),
              other == who ? speed : 1000);
        }
      }
    }
  }

  /** "the CLOCK is that over 1000, rounded down". */
  private static void slowClockIsRoundedDown() {
    int[][] due = {{1, 0}, {2, 1}, {999, 998}, {1000, 999}, {1001, 999}, {1002, 1000}, {2001, 1998}, {2002, 1999}};
    for (int[] row : due) {
      LeaseGates x = new LeaseGates();
      x.speed(3, 999);
      x.speed(LeaseGates.NONE, 999);
      x.tick(row[0]);
      checks.due("a slow gate after " + row[0], x.clock(3), row[1]);
      checks.due("a slow ROOT after " + row[0], x.clock(LeaseGates.NONE), row[1]);
    }
  }

  private static void fastClockIsRoundedDown() {
    int[][] due = {{1, 1}, {998, 998}, {999, 999}, {1000, 1001}, {1999, 2000}, {2000, 2002}};
    for (int[] row : due) {
      LeaseGates x = new LeaseGates();
      x.speed(3, 1001);
      x.speed(LeaseGates.NONE, 1001);
      x.tick(row[0]);
      checks.due("a fast gate after " + row[0], x.clock(3), row[1]);
      checks.due("a fast ROOT after " + row[0], x.clock(LeaseGates.NONE), row[1]);
    }
  }

  /** "d times SPEED is added to what has gone by there, in thousandths". */
  private static void thousandthsOutliveASpeed() {
    LeaseGates x = new LeaseGates();
    x.speed(LeaseGates.NONE, 999);
    x.tick(1);
    x.speed(LeaseGates.NONE, 1000);
    x.tick(1);
    checks.due("1.999", x.clock(LeaseGates.NONE), 1);
    x.speed(LeaseGates.NONE, 1001);
    x.tick(1);
    checks.due("3.000", x.clock(LeaseGates.NONE), 3);
  }

  /** "With each millisecond of the ROOT's CLOCK": ten of true time are but nine of a slow ROOT. */
  private static void rootThatIsSlowEndsLoansLater() {
    LeaseGates x = Scene.full(10, 0);
    x.length(10);
    Scene.lend(x, 0, 0, 1);
    x.speed(LeaseGates.NONE, 999);
    x.tick(10);
    checks.due("CLOCK at 10.990", x.clock(LeaseGates.NONE), 10);
    checks.due("9 of 10 have gone by", x.root(0, 3), 1);
    x.tick(1);
    checks.due("CLOCK at 11.989", x.clock(LeaseGates.NONE), 11);
    checks.due("10 of 10 have gone by", x.root(0, 3), 0);
  }

  private static void rootThatStandsStillFillsNothing() {
    LeaseGates x = new LeaseGates();
    x.key(0, 100000, 1000);
    x.speed(LeaseGates.NONE, 999);
    x.tick(1);
    checks.due("LEVEL at 0.999", x.root(0, 1), 0);
    x.speed(LeaseGates.NONE, 1001);
    x.tick(1);
    checks.due("LEVEL at 2.000", x.root(0, 1), 200000);
  }

  /** "With each millisecond of the ROOT's CLOCK, first LOANS whose end that is are over": also one between two ticks. */
  private static void loanEndsInAMillisecondThatIsLeaptOver() {
    LeaseGates x = Scene.full(10, 3000);
    x.length(10);
    Scene.lend(x, 0, 0, 4);
    x.tick(9);
    x.speed(LeaseGates.NONE, 999);
    x.tick(1);
    checks.due("CLOCK a millisecond before the end", x.clock(LeaseGates.NONE), 10);
    checks.due("on LOAN", Scene.root(x, 0), 0, 2000, 8, 1);
    x.speed(LeaseGates.NONE, 1001);
    x.tick(1);
    checks.due("CLOCK a millisecond behind the end", x.clock(LeaseGates.NONE), 12);
    checks.due("over, and two steps since then", Scene.root(x, 0), 0, 8000, 0, 0);
  }

  private static void holdEndsInAMillisecondThatIsLeaptOver() {
    LeaseGates x = Scene.full(10, 0);
    x.length(10);
    Scene.lend(x, 2, 0, 4);
    x.tick(7);
    x.speed(2, 999);
    x.tick(1);
    checks.due("CLOCK two milliseconds before the end", x.clock(2), 8);
    checks.due("LIVE", x.gate(2, 0, 0), 8);
    x.speed(2, 1001);
    x.tick(1);
    checks.due("CLOCK at the end", x.clock(2), 10);
    checks.due("not LIVE", x.gate(2, 0, 0), 0);
  }

  /** "True time goes on by 1 .. 5000 milliseconds." */
  private static void shortestAndLongestTick() {
    LeaseGates x = new LeaseGates();
    x.key(0, 1, 1000);
    x.tick(1);
    checks.due("1", Scene.root(x, 0), 0, 1, 0, 0);
    x.tick(5000);
    checks.due("5001", Scene.root(x, 0), 0, 5001, 0, 0);
    checks.due("the ROOT's CLOCK", x.clock(LeaseGates.NONE), 5001);
    checks.due("a GATE's CLOCK", x.clock(5), 5001);
  }
}
