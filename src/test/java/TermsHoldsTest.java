/** The document's terms, edge by edge: holds, how long they are live, and in which order they are spent. */
public final class TermsHoldsTest {
  private static final Checks checks = new Checks("terms, holds");

  public static void main(String[] args) {
    liveForAlmostTheLength();
    liveByTheGatesOwnClock();
    liveSinceItWasAskedFor();
    grantThatComesAtTheEnd();
    liveOrNotItIsAHold();
    takeOfAllThatIsLive();
    takeOfOneTooMany();
    takeOfTheLeastAndTheGreatest();
    takeFromNothing();
    takeLeavesWhatIsNotLive();
    takeOverSeveralHolds();
    shortestTimeFirst();
    sameTimeLowerNumberFirst();
    refusalsSinceTheLastGrant();
    checks.end();
  }

  /** "less than 998 times the length over 1000, rounded down". */
  private static void liveForAlmostTheLength() {
    int[][] spans = {{10, 9}, {11, 10}, {499, 498}, {500, 499}, {501, 499}, {999, 997}, {1000, 998}, {1001, 998},
        {2000, 1996}, {8999, 8981}, {9000, 8982}};
    for (int[] span : spans) {
      LeaseGates x = Scene.full(10, 0);
      x.length(span[0]);
      Scene.lend(x, 0, 0, 1);
      Scene.pass(x, span[1] - 1);
      checks.due("LIVE, LENGTH " + span[0], x.gate(0, 0, 0), 2);
      x.tick(1);
      checks.due("not LIVE, LENGTH " + span[0], x.gate(0, 0, 0), 0);
    }
  }

  /** "its CLOCK less ASKED": 998 of its own milliseconds, which a slow gate has later. */
  private static void liveByTheGatesOwnClock() {
    int[][] due = {{999, 999}, {1000, 998}, {1001, 998}};
    for (int[] row : due) {
      LeaseGates x = Scene.full(10, 0);
      x.length(1000);
      x.speed(0, row[0]);
      x.speed(LeaseGates.NONE, 999);
      Scene.lend(x, 0, 0, 1);
      x.tick(row[1] - 1);
      checks.due("CLOCK, SPEED " + row[0], x.clock(0), 998);
      checks.due("LIVE, SPEED " + row[0], x.gate(0, 0, 0), 2);
      x.tick(1);
      checks.due("not LIVE, SPEED " + row[0], x.gate(0, 0, 0), 0);
    }
  }

  /** "ASKED being since when the ask was OPEN": that of the last ask, not of one before it. */
  private static void liveSinceItWasAskedFor() {
    LeaseGates x = Scene.full(100, 0);
    x.length(1000);
    Scene.ask(x, 0, 0, 10);
    x.tick(500);
    int ask = Scene.ask(x, 0, 0, 10);
    x.tick(300);
    int grant = Scene.answer(x, ask);
    x.tick(200);
    x.carry(grant);
    x.tick(497);
    checks.due("997 since the second ask", x.gate(0, 0, 0), 30);
    x.tick(1);
    checks.due("998 since the second ask", x.gate(0, 0, 0), 0);
  }

  private static void grantThatComesAtTheEnd() {
    for (int late = 997; late <= 998; late++) {
      LeaseGates x = Scene.full(100, 0);
      x.length(1000);
      int grant = Scene.answer(x, Scene.ask(x, 0, 0, 10));
      x.tick(late);
      checks.due("something, " + late + " late", x.carry(grant), true);
      checks.due("a HOLD, " + late + " late", Scene.gate(x, 0, 0), late < 998 ? 20 : 0, 1, 10, 0, 1, 0, 1);
    }
  }

  /** "1 HOLDS (LIVE or not)": until it works. */
  private static void liveOrNotItIsAHold() {
    LeaseGates x = Scene.full(10, 0);
    Scene.lend(x, 0, 0, 1);
    x.tick(5000);
    checks.due("not LIVE", Scene.gate(x, 0, 0), 0, 1, 1, 0, 1, 0, 1);
    x.take(0, 0, 1);
    checks.due("a take leaves it", x.gate(0, 0, 1), 1);
    x.work(0);
    checks.due("it worked", x.gate(0, 0, 1), 0);
  }

  /** "whether they are granted: it has as many LIVE"; "one without tokens is gone". */
  private static void takeOfAllThatIsLive() {
    LeaseGates x = Scene.full(10, 0);
    Scene.lend(x, 0, 0, 4);
    checks.due("all but one", x.take(0, 0, 7), true);
    checks.due("one is left", Scene.gate(x, 0, 0), 1, 1, 4, 7, 1, 0, 0);
    checks.due("the last", x.take(0, 0, 1), true);
    checks.due("none is left", Scene.gate(x, 0, 0), 0, 0, 4, 8, 1, 0, 0);
    checks.due("granted in all", x.root(0, 0), 8);
  }

  private static void takeOfOneTooMany() {
    LeaseGates x = Scene.full(10, 0);
    Scene.lend(x, 0, 0, 4);
    checks.due("9 of 8", x.take(0, 0, 9), false);
    checks.due("none is taken", Scene.gate(x, 0, 0), 8, 1, 4, 9, 1, 0, 2);
    checks.due("none is granted", x.root(0, 0), 0);
  }

  /** "n tokens of a key are asked for at a GATE, 1 .. 10,000". */
  private static void takeOfTheLeastAndTheGreatest() {
    LeaseGates x = new LeaseGates();
    x.key(0, 100000, 1000000);
    x.tick(5000);
    Scene.lend(x, 0, 0, 5001);
    checks.due("the least", x.take(0, 0, 1), true);
    checks.due("the greatest", x.take(0, 0, 10000), true);
    checks.due("what is left", Scene.gate(x, 0, 0), 1, 1, 5001, 10001, 1, 0, 0);
    checks.refused(x, "0", () -> x.take(0, 0, 0));
    checks.refused(x, "10001", () -> x.take(0, 0, 10001));
  }

  private static void takeFromNothing() {
    LeaseGates x = Scene.full(10, 0);
    checks.due("the least", x.take(0, 0, 1), false);
    checks.due("the greatest", x.take(0, 0, 10000), false);
    checks.due("USE and refusals", Scene.gate(x, 0, 0), 0, 0, 0, 10001, 0, 0, 2);
    checks.due("the ROOT", Scene.root(x, 0), 0, 10000, 0, 0);
  }

  /** Three HOLDS of gate 0: 8 tokens of LENGTH 100, then 14 of 9000, then 34 of 500, all asked for at once. */
  private static LeaseGates threeHolds() {
    LeaseGates x = Scene.full(100, 0);
    x.length(100);
    Scene.lend(x, 0, 0, 4);
    x.length(9000);
    Scene.lend(x, 0, 0, 9);
    x.length(500);
    Scene.lend(x, 0, 0, 23);
    checks.due("three HOLDS", Scene.gate(x, 0, 0), 56, 3, 28, 0, 3, 0, 3);
    return x;
  }

  private static void takeLeavesWhatIsNotLive() {
    LeaseGates x = threeHolds();
    x.tick(99);
    checks.due("LIVE", x.gate(0, 0, 0), 48);
    checks.due("one more than is LIVE", x.take(0, 0, 49), false);
    checks.due("all that is LIVE", x.take(0, 0, 48), true);
    checks.due("the first stays", Scene.gate(x, 0, 0), 0, 1, 28, 97, 3, 0, 0);
  }

  private static void takeOverSeveralHolds() {
    int[][] due = {{7, 3}, {8, 2}, {41, 2}, {42, 1}, {55, 1}, {56, 0}};
    for (int[] row : due) {
      LeaseGates x = threeHolds();
      checks.due("granted " + row[0], x.take(0, 0, row[0]), true);
      checks.due("left of " + row[0], Scene.gate(x, 0, 0), 56 - row[0], row[1], 28, row[0], 3, 0, 0);
    }
  }

  /** "taken from HOLDS that are LIVE for the shortest time first". */
  private static void shortestTimeFirst() {
    LeaseGates x = threeHolds();
    x.take(0, 0, 8 + 34 + 5);
    x.tick(4000);
    checks.due("what is LIVE for the longest time is left", x.gate(0, 0, 0), 9);
    LeaseGates y = threeHolds();
    y.take(0, 0, 8 + 5);
    y.tick(498);
    checks.due("5 of the third were taken", y.gate(0, 0, 0), 14 + 29);
    y.tick(1);
    checks.due("the third is not LIVE any more", y.gate(0, 0, 0), 14);
  }

  /** "(of such the one with the lower number)". */
  private static void sameTimeLowerNumberFirst() {
    LeaseGates x = Scene.full(100, 0);
    Scene.lend(x, 0, 0, 4);
    Scene.lend(x, 0, 0, 9);
    checks.due("two HOLDS", Scene.gate(x, 0, 0), 22, 2, 11, 0, 2, 0, 2);
    x.take(0, 0, 9);
    x.tick(998);
    x.work(0);
    checks.due("the RETURN is of the higher number", Scene.message(x, 4), 2, 0, 0, 13, 0, -1, 1);
  }

  /** "how often it was refused since it granted last (or started)". */
  private static void refusalsSinceTheLastGrant() {
    LeaseGates x = Scene.full(10, 0);
    checks.due("never", x.gate(0, 0, 6), 0);
    x.take(0, 0, 4);
    x.take(0, 0, 1);
    checks.due("twice since it started", x.gate(0, 0, 6), 2);
    x.work(0);
    x.carry(0);
    x.carry(1);
    checks.due("work and a GRANT change nothing", x.gate(0, 0, 6), 2);
    x.take(0, 0, 10);
    checks.due("all that is LIVE was granted", x.gate(0, 0, 6), 0);
    x.take(0, 0, 1);
    checks.due("once since then", x.gate(0, 0, 6), 1);
    checks.due("of another key", x.gate(0, 1, 6), 0);
    checks.due("of another gate", x.gate(1, 0, 6), 0);
    x.restart(0);
    checks.due("started anew", x.gate(0, 0, 6), 0);
  }
}
