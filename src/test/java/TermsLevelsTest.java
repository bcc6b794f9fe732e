/** The document's terms, edge by edge: keys, their levels, and the end of loans. */
public final class TermsLevelsTest {
  private static final Checks checks = new Checks("terms, levels");

  public static void main(String[] args) {
    leastRateAndLeastBurst();
    greatestRateAndGreatestBurst();
    rateNought();
    burstNought();
    lastStepIsCut();
    levelStopsBelowWhatIsLent();
    allIsLent();
    moreIsLentThanTheBurst();
    lessIsLentAsLoansEndOneByOne();
    lentIsOfItsKeyAlone();
    loanEndsAtItsMillisecond();
    levelGrowsInTheMillisecondOfTheEnd();
    twoLoansEndInOneMillisecond();
    whatWasLentIsSpent();
    checks.end();
  }

  private static void leastRateAndLeastBurst() {
    LeaseGates x = new LeaseGates();
    x.key(0, 1, 1);
    x.tick(999);
    checks.due("a thousandth below", x.root(0, 1), 999);
    x.tick(1);
    checks.due("full", x.root(0, 1), 1000);
    x.tick(1);
    checks.due("still full", x.root(0, 1), 1000);
  }

  /** "rate not 0 .. 100,000, burst not 0 .. 1,000,000": the greatest of both in one long wait. */
  private static void greatestRateAndGreatestBurst() {
    LeaseGates x = new LeaseGates();
    x.key(7, 100000, 1000000);
    x.tick(5000);
    x.tick(5000);
    checks.due("just full", x.root(7, 1), 1000000000);
    Scene.pass(x, 500000);
    checks.due("full for long", x.root(7, 1), 1000000000);
  }

  private static void rateNought() {
    LeaseGates x = Scene.full(5, 0);
    Scene.lend(x, 0, 0, 1);
    x.tick(5000);
    checks.due("what is lent does not grow anew", Scene.root(x, 0), 0, 3000, 0, 0);
  }

  private static void burstNought() {
    LeaseGates x = Scene.full(5, 100000);
    x.key(0, 100000, 0);
    checks.due("cut to nothing", x.root(0, 1), 0);
    x.tick(1);
    checks.due("no growth", x.root(0, 1), 0);
    int grant = Scene.answer(x, Scene.ask(x, 0, 0, 1));
    checks.due("nothing to lend", x.message(grant, 3), 0);
  }

  /** "LEVEL is at most 1000 times (BURST - LENT)": a step that is too long ends there. */
  private static void lastStepIsCut() {
    LeaseGates x = new LeaseGates();
    x.key(0, 1001, 1);
    x.tick(1);
    checks.due("the first step is too long", x.root(0, 1), 1000);
    LeaseGates y = new LeaseGates();
    y.key(0, 1000, 1);
    y.tick(1);
    checks.due("the first step just fits", y.root(0, 1), 1000);
    LeaseGates z = new LeaseGates();
    z.key(0, 600, 1);
    z.tick(1);
    checks.due("a first step", z.root(0, 1), 600);
    z.tick(1);
    checks.due("a second that is too long", z.root(0, 1), 1000);
  }

  private static void levelStopsBelowWhatIsLent() {
    LeaseGates x = Scene.full(10, 0);
    Scene.lend(x, 0, 0, 2);
    x.key(0, 7, 11);
    checks.due("LENT 4 of 11", Scene.root(x, 0), 0, 6000, 4, 1);
    x.tick(142);
    checks.due("a step below", x.root(0, 1), 6994);
    x.tick(1);
    checks.due("1000 times 7", x.root(0, 1), 7000);
    x.tick(1);
    checks.due("still", x.root(0, 1), 7000);
  }

  /** BURST less LENT is 0. */
  private static void allIsLent() {
    LeaseGates x = Scene.full(10, 1);
    Scene.lend(x, 0, 0, 5);
    checks.due("all is lent", Scene.root(x, 0), 0, 0, 10, 1);
    x.tick(1999);
    checks.due("no growth", Scene.root(x, 0), 0, 0, 10, 1);
    x.tick(1);
    checks.due("a first step", Scene.root(x, 0), 0, 1, 0, 0);
  }

  /** "and never below 0". */
  private static void moreIsLentThanTheBurst() {
    LeaseGates x = Scene.full(10, 0);
    Scene.lend(x, 0, 0, 4);
    x.key(0, 100000, 8);
    checks.due("as much is lent", Scene.root(x, 0), 0, 0, 8, 1);
    x.key(0, 100000, 7);
    checks.due("more is lent", Scene.root(x, 0), 0, 0, 8, 1);
    x.key(0, 100000, 0);
    checks.due("BURST 0", Scene.root(x, 0), 0, 0, 8, 1);
    x.tick(1999);
    checks.due("no growth", Scene.root(x, 0), 0, 0, 8, 1);
    int grant = Scene.answer(x, Scene.ask(x, 1, 0, 1));
    checks.due("nothing to lend", Scene.message(x, grant), 1, 1, 0, 0, 0, 1, -1);
  }

  private static void lessIsLentAsLoansEndOneByOne() {
    LeaseGates x = Scene.full(40, 0);
    Scene.lend(x, 0, 0, 10);
    x.tick(10);
    Scene.lend(x, 1, 0, 5);
    x.key(0, 100000, 15);
    checks.due("LENT 30, BURST 15", Scene.root(x, 0), 0, 0, 30, 2);
    x.tick(1990);
    checks.due("LENT 10, BURST 15", Scene.root(x, 0), 0, 5000, 10, 1);
    x.tick(10);
    checks.due("LENT 0, BURST 15", Scene.root(x, 0), 0, 15000, 0, 0);
  }

  /** "LENT is the sum of what is on LOAN of the key". */
  private static void lentIsOfItsKeyAlone() {
    LeaseGates x = Scene.full(10, 0);
    Scene.fill(x, 1, 10, 0);
    Scene.lend(x, 0, 0, 2);
    Scene.lend(x, 1, 0, 1);
    Scene.lend(x, 0, 1, 3);
    checks.due("key 0", Scene.root(x, 0), 0, 4000, 6, 2);
    checks.due("key 1", Scene.root(x, 1), 0, 4000, 6, 1);
    checks.due("key 2", Scene.root(x, 2), 0, 0, 0, 0);
    x.key(1, 0, 6);
    checks.due("key 1 is cut", Scene.root(x, 1), 0, 0, 6, 1);
    checks.due("key 0 is not", Scene.root(x, 0), 0, 4000, 6, 2);
  }

  /** "to the end: LENGTH milliseconds later", with the least and the greatest LENGTH. */
  private static void loanEndsAtItsMillisecond() {
    int[] lengths = {10, 11, 1999, 2000, 8999, 9000};
    for (int length : lengths) {
      LeaseGates x = Scene.full(10, 0);
      x.length(length);
      Scene.lend(x, 0, 0, 2);
      Scene.pass(x, length - 1);
      checks.due("a millisecond before the end of " + length, Scene.root(x, 0), 0, 6000, 4, 1);
      x.tick(1);
      checks.due("at the end of " + length, Scene.root(x, 0), 0, 6000, 0, 0);
    }
  }

  /** "first LOANS whose end that is are over (...), then each LEVEL is greater by RATE, if it may". */
  private static void levelGrowsInTheMillisecondOfTheEnd() {
    for (int behind = 0; behind < 3; behind++) {
      LeaseGates x = Scene.full(10, 1000);
      x.length(50);
      Scene.lend(x, 0, 0, 2);
      x.tick(50 + behind);
      checks.due(behind + " behind the end", Scene.root(x, 0), 0, 7000 + 1000 * behind, 0, 0);
    }
  }

  private static void twoLoansEndInOneMillisecond() {
    LeaseGates x = Scene.full(10, 2000);
    x.length(30);
    Scene.lend(x, 0, 0, 2);
    x.tick(10);
    x.length(20);
    Scene.lend(x, 1, 0, 3);
    checks.due("LENT", Scene.root(x, 0), 0, 0, 10, 2);
    x.tick(19);
    checks.due("before the end", Scene.root(x, 0), 0, 0, 10, 2);
    x.tick(1);
    checks.due("at the end", Scene.root(x, 0), 0, 2000, 0, 0);
  }

  /** "(what was lent is spent)": it does not come back, and no gate is asked what it spent. */
  private static void whatWasLentIsSpent() {
    LeaseGates x = Scene.full(10, 0);
    Scene.lend(x, 0, 0, 2);
    x.tick(2000);
    checks.due("4 are lost", Scene.root(x, 0), 0, 6000, 0, 0);
    x.key(0, 0, 1000000);
    x.tick(5000);
    checks.due("for ever", Scene.root(x, 0), 0, 6000, 0, 0);
  }
}
