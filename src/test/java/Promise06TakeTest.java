public final class Promise06TakeTest {
  private static final Checks checks = new Checks("promise 6, take");

  public static void main(String[] args) {
    grantedAsFarAsThereAreLive();
    useCountsAll();
    refusalsAreCounted();
    gatesAndKeysAreApart();
    earlierEndGoesFirst();
    shorterLoanGoesFirst();
    lowerNumberGoesFirst();
    holdsThatAreNotLiveAreLeftAlone();
    wrongNumbers();
    checks.end();
  }

  private static void grantedAsFarAsThereAreLive() {
    LeaseGates x = Scene.full(100, 0);
    checks.due("of nothing", x.take(0, 0, 10), false);
    x.work(0);
    x.carry(0);
    checks.due("before the grant has come", x.take(0, 0, 1), false);
    x.carry(1);
    checks.due("one too many", x.take(0, 0, 21), false);
    checks.due("a refusal takes nothing", x.gate(0, 0, 0), 20);
    checks.due("a part", x.take(0, 0, 15), true);
    checks.due("what is left", Scene.gate(x, 0, 0), 5, 1, 10, 37, 1, 0, 0);
    checks.due("all that is left", x.take(0, 0, 5), true);
    checks.due("a HOLD without tokens is gone", Scene.gate(x, 0, 0), 0, 0, 10, 42, 1, 0, 0);
    checks.due("nothing is left", x.take(0, 0, 1), false);
    checks.due("the ROOT's LOAN stays", Scene.root(x, 0), 20, 80000, 20, 1);
    LeaseGates y = new LeaseGates();
    y.key(0, 100000, 1000000);
    y.tick(5000);
    Scene.lend(y, 0, 0, 10000);
    checks.due("10000", y.take(0, 0, 10000), true);
    checks.due("10000 once more", y.take(0, 0, 10000), true);
    checks.due("10000 too many", y.take(0, 0, 10000), false);
  }

  private static void useCountsAll() {
    LeaseGates x = Scene.full(100, 0);
    Scene.lend(x, 0, 0, 10);
    checks.due("USE since it worked", x.gate(0, 0, 3), 0);
    x.take(0, 0, 3);
    checks.due("granted", x.gate(0, 0, 3), 3);
    x.take(0, 0, 1000);
    checks.due("refused", x.gate(0, 0, 3), 1003);
  }

  private static void refusalsAreCounted() {
    LeaseGates x = Scene.full(100, 0);
    Scene.lend(x, 0, 0, 1);
    checks.due("one", x.gate(0, 0, 6), 1);
    x.take(0, 0, 3);
    checks.due("two", x.gate(0, 0, 6), 2);
    x.take(0, 0, 1);
    checks.due("granted", x.gate(0, 0, 6), 0);
    x.take(0, 0, 2);
    checks.due("one since then", x.gate(0, 0, 6), 1);
  }

  private static void gatesAndKeysAreApart() {
    LeaseGates x = Scene.full(100, 0);
    Scene.lend(x, 2, 0, 10);
    checks.due("another gate", x.take(3, 0, 1), false);
    checks.due("another key", x.take(2, 1, 1), false);
    checks.due("gate 2", Scene.gate(x, 2, 0), 20, 1, 10, 0, 1, 0, 1);
    checks.due("gate 3", Scene.gate(x, 3, 0), 0, 0, 0, 1, 0, 0, 1);
    checks.due("key 1", Scene.gate(x, 2, 1), 0, 0, 0, 1, 0, 0, 1);
  }

  /** A first HOLD of 20 tokens, then, so many milliseconds later, a second one of another length. */
  private static LeaseGates twoHolds(int length, int later, int otherLength) {
    LeaseGates x = Scene.full(100, 0);
    x.length(length);
    Scene.lend(x, 0, 0, 10);
    x.tick(later);
    x.length(otherLength);
    Scene.lend(x, 0, 0, 40);
    checks.due("HOLDS", x.gate(0, 0, 1), 2);
    checks.due("LIVE", x.gate(0, 0, 0), 90);
    return x;
  }

  private static void earlierEndGoesFirst() {
    LeaseGates x = twoHolds(2000, 100, 2000);
    x.take(0, 0, 20);
    checks.due("of two of one length the earlier is gone", x.gate(0, 0, 1), 1);
    x.tick(1896);
    checks.due("the later is still LIVE", x.gate(0, 0, 0), 70);
    LeaseGates y = twoHolds(2000, 100, 2000);
    y.take(0, 0, 25);
    checks.due("over the edge of a HOLD", Scene.gate(y, 0, 0), 65, 1, 45, 25, 2, 0, 0);
    LeaseGates z = twoHolds(2000, 100, 2000);
    z.take(0, 0, 90);
    checks.due("all of both", z.gate(0, 0, 1), 0);
  }

  private static void shorterLoanGoesFirst() {
    LeaseGates x = twoHolds(9000, 100, 500);
    x.take(0, 0, 70);
    checks.due("the later one of the shorter length is gone", x.gate(0, 0, 1), 1);
    x.tick(499);
    checks.due("the longer one is still LIVE", x.gate(0, 0, 0), 20);
  }

  private static void lowerNumberGoesFirst() {
    // 998 * 1499 / 1000 is 1496, and that is 500 less than 998 * 2000 / 1000: both end at once.
    LeaseGates x = twoHolds(2000, 500, 1499);
    x.take(0, 0, 20);
    checks.due("one is gone", x.gate(0, 0, 1), 1);
    x.tick(750);
    x.work(0);
    checks.due("the one with the higher number is left", x.message(4, 6), 1);
    checks.due("with all its tokens", x.message(4, 3), 70);
  }

  private static void holdsThatAreNotLiveAreLeftAlone() {
    LeaseGates x = twoHolds(500, 100, 9000);
    x.tick(399);
    checks.due("LIVE", x.gate(0, 0, 0), 70);
    checks.due("all of them", x.take(0, 0, 71), false);
    checks.due("those that are LIVE", x.take(0, 0, 70), true);
    checks.due("one that is not LIVE stays", Scene.gate(x, 0, 0), 0, 1, 45, 141, 2, 0, 0);
    checks.due("and gives nothing", x.take(0, 0, 1), false);
  }

  private static void wrongNumbers() {
    LeaseGates x = Scene.full(100, 0);
    Scene.lend(x, 0, 0, 10);
    checks.refused(x, "take(-1, 0, 1)", () -> x.take(-1, 0, 1));
    checks.refused(x, "take(6, 0, 1)", () -> x.take(6, 0, 1));
    checks.refused(x, "take(0, -1, 1)", () -> x.take(0, -1, 1));
    checks.refused(x, "take(0, 8, 1)", () -> x.take(0, 8, 1));
    checks.refused(x, "take(0, 0, 0)", () -> x.take(0, 0, 0));
    checks.refused(x, "take(0, 0, -1)", () -> x.take(0, 0, -1));
    checks.refused(x, "take(0, 0, 10001)", () -> x.take(0, 0, 10001));
  }
}
