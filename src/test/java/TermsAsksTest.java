/** The document's terms, edge by edge: what the root does with an ask. */
public final class TermsAsksTest {
  private static final Checks checks = new Checks("terms, asks");

  public static void main(String[] args) {
    lowerBirthIsNothing();
    sameBirthIsHeard();
    higherBirthForgetsAllKeysOfTheGate();
    birthsThatTheRootNeverHeardOf();
    lateAskOfAHigherBirthIsHeard();
    sameCountIsAnsweredAgain();
    againWhateverHasChanged();
    againWithNothing();
    lowerCountIsNothing();
    firstCountThatIsHeardMayBeAny();
    freeIsRoundedDown();
    freeIsJustWhatIsAsked();
    freeIsOneLessThanAsked();
    nothingIsFree();
    alone();
    partIsRoundedDown();
    partIsBelowOne();
    leastAndGreatestWeight();
    askedLessThanASecondAgo();
    secondOfTheRootsClock();
    askedTwiceCountsOnce();
    whatIsNothingDoesNotCount();
    whatIsAskedAgainDoesNotCount();
    askedForAnotherKeyDoesNotCount();
    oneThatGotAllItAskedForCounts();
    wholeTokensGoFromLevel();
    numbersFromNoughtOn();
    lengthOfThatTime();
    checks.end();
  }

  /** The grant that answers it, read. */
  private static int[] answer(LeaseGates x, int ask) {
    return Scene.message(x, Scene.answer(x, ask));
  }

  /** "An ASK or RETURN of a lower one is nothing." */
  private static void lowerBirthIsNothing() {
    LeaseGates x = Scene.full(100, 0);
    int old = Scene.ask(x, 0, 0, 1);
    x.restart(0);
    x.carry(Scene.ask(x, 0, 0, 2));
    String before = Scene.all(x);
    checks.due("BIRTH 0 behind BIRTH 1", x.carry(old), false);
    checks.due("all", Scene.all(x), before);
  }

  /** "the greatest BIRTH that it has heard of from each GATE (0 at first)": 0 itself is not lower. */
  private static void sameBirthIsHeard() {
    LeaseGates x = Scene.full(100, 0);
    checks.due("BIRTH 0 at first", x.carry(Scene.ask(x, 0, 0, 1)), true);
    x.restart(1);
    checks.due("BIRTH 1", x.carry(Scene.ask(x, 1, 0, 1)), true);
    checks.due("BIRTH 1 once more, another key", x.carry(Scene.ask(x, 1, 1, 1)), true);
    checks.due("another gate's BIRTH 0", x.carry(Scene.ask(x, 2, 0, 1)), true);
  }

  /** "With an ASK of a higher one it forgets what it answered to this GATE (LOANS stay)." */
  private static void higherBirthForgetsAllKeysOfTheGate() {
    LeaseGates x = Scene.full(100, 0);
    Scene.fill(x, 7, 100, 0);
    Scene.lend(x, 0, 0, 1);
    Scene.lend(x, 0, 7, 2);
    int others = Scene.lend(x, 1, 7, 3) - 1;
    x.restart(0);
    x.take(0, 0, 4);
    x.take(0, 7, 5);
    x.work(0);
    int ask = x.sent() - 2;
    checks.due("COUNT 1, key 0", answer(x, ask), 1, 0, 0, 8, 1, 1, 3);
    checks.due("COUNT 1, key 7", answer(x, ask + 1), 1, 0, 7, 10, 1, 1, 4);
    checks.due("another gate's COUNT 1", answer(x, others), 1, 1, 7, 6, 0, 1, 2);
    checks.due("LOANS of key 0", Scene.root(x, 0), 0, 90000, 10, 2);
    checks.due("LOANS of key 7", Scene.root(x, 7), 0, 80000, 20, 3);
  }

  private static void birthsThatTheRootNeverHeardOf() {
    LeaseGates x = Scene.full(100, 0);
    int first = Scene.ask(x, 0, 0, 1);
    x.restart(0);
    int second = Scene.ask(x, 0, 0, 2);
    x.restart(0);
    x.restart(0);
    int third = Scene.ask(x, 0, 0, 3);
    checks.due("BIRTH 3", answer(x, third), 1, 0, 0, 6, 3, 1, 0);
    checks.due("BIRTH 1", x.carry(second), false);
    checks.due("BIRTH 0", x.carry(first), false);
    checks.due("BIRTH 3 again", answer(x, third), 1, 0, 0, 6, 3, 1, 0);
  }

  /** The root knows no restart but by an ASK: until then those of before are answered. */
  private static void lateAskOfAHigherBirthIsHeard() {
    LeaseGates x = Scene.full(100, 0);
    int first = Scene.ask(x, 0, 0, 1);
    x.restart(0);
    int second = Scene.ask(x, 0, 0, 2);
    checks.due("BIRTH 0", answer(x, first), 1, 0, 0, 2, 0, 1, 0);
    checks.due("BIRTH 0 again", answer(x, first), 1, 0, 0, 2, 0, 1, 0);
    checks.due("BIRTH 1", answer(x, second), 1, 0, 0, 4, 1, 1, 1);
    checks.due("BIRTH 0 behind it", x.carry(first), false);
  }

  /** "is answered again: the same GRANT is sent once more". */
  private static void sameCountIsAnsweredAgain() {
    LeaseGates x = Scene.full(100, 0);
    int ask = Scene.ask(x, 0, 0, 1);
    for (int i = 0; i < 3; i++) {
      checks.due("something", x.carry(ask), true);
      checks.due("the GRANT", Scene.message(x, 1 + i), 1, 0, 0, 2, 0, 1, 0);
      checks.due("one LOAN", Scene.root(x, 0), 0, 98000, 2, 1);
    }
  }

  private static void againWhateverHasChanged() {
    LeaseGates x = Scene.full(100, 0);
    int ask = Scene.ask(x, 0, 0, 3);
    x.carry(ask);
    x.carry(1);
    x.length(10);
    x.weight(0, 0, 50);
    x.key(0, 0, 0);
    x.tick(1500);
    x.work(0);
    checks.due("the RETURN is heard", x.carry(2), true);
    checks.due("the LOAN is over", Scene.root(x, 0), 0, 0, 0, 0);
    x.restart(0);
    checks.due("the GRANT", answer(x, ask), 1, 0, 0, 6, 0, 1, 0);
    checks.due("no LOAN", Scene.root(x, 0), 0, 0, 0, 0);
  }

  private static void againWithNothing() {
    LeaseGates x = new LeaseGates();
    int ask = Scene.ask(x, 0, 0, 3);
    checks.due("nothing is free", answer(x, ask), 1, 0, 0, 0, 0, 1, -1);
    Scene.fill(x, 0, 100, 0);
    checks.due("now it is, but it was answered", answer(x, ask), 1, 0, 0, 0, 0, 1, -1);
    checks.due("no LOAN", Scene.root(x, 0), 0, 100000, 0, 0);
  }

  /** "one whose COUNT is lower is nothing". */
  private static void lowerCountIsNothing() {
    LeaseGates x = Scene.full(100, 0);
    int first = Scene.ask(x, 0, 0, 3);
    checks.due("the first", x.carry(first), true);
    x.tick(500);
    int second = Scene.ask(x, 0, 0, 3);
    checks.due("the first again", x.carry(first), true);
    checks.due("the second", x.carry(second), true);
    String before = Scene.all(x);
    checks.due("the first behind the second", x.carry(first), false);
    checks.due("all", Scene.all(x), before);
  }

  /** "(none at first)". */
  private static void firstCountThatIsHeardMayBeAny() {
    LeaseGates x = Scene.full(100, 0);
    Scene.ask(x, 0, 0, 100);
    x.tick(500);
    x.work(0);
    x.tick(500);
    x.work(0);
    checks.due("COUNT 3", x.message(2, 5), 3);
    checks.due("it is answered", answer(x, 2), 1, 0, 0, 50, 0, 3, 0);
    checks.due("COUNT 2", x.carry(1), false);
    checks.due("COUNT 1", x.carry(0), false);
  }

  /** "free is LEVEL / 1000, rounded down". */
  private static void freeIsRoundedDown() {
    int[][] due = {{999, 0}, {1000, 1}, {1999, 1}, {2000, 2}, {2001, 2}};
    for (int[] row : due) {
      LeaseGates x = new LeaseGates();
      x.key(0, 1, 10);
      x.tick(row[0]);
      checks.due("LEVEL", x.root(0, 1), row[0]);
      int grant = Scene.answer(x, Scene.ask(x, 0, 0, 5));
      checks.due("granted of " + row[0], x.message(grant, 3), row[1]);
      checks.due("left of " + row[0], Scene.root(x, 0), 0, row[0] - 1000 * row[1], row[1], row[1] > 0 ? 1 : 0);
    }
  }

  /** An object whose key 0 has so many tokens, and for which gate 1 asked for key 0 just now, in vain. */
  private static LeaseGates withAnother(int tokens) {
    LeaseGates x = new LeaseGates();
    x.carry(Scene.ask(x, 1, 0, 1));
    Scene.fill(x, 0, tokens, 0);
    return x;
  }

  /** "if that is at least what is asked, all of it is granted", whoever else asked. */
  private static void freeIsJustWhatIsAsked() {
    LeaseGates x = withAnother(10);
    checks.due("10 of 10", answer(x, Scene.ask(x, 0, 0, 5)), 1, 0, 0, 10, 0, 1, 0);
    LeaseGates y = withAnother(11);
    checks.due("10 of 11", answer(y, Scene.ask(y, 0, 0, 5)), 1, 0, 0, 10, 0, 1, 0);
  }

  private static void freeIsOneLessThanAsked() {
    LeaseGates x = withAnother(9);
    checks.due("half of 9", answer(x, Scene.ask(x, 0, 0, 5)), 1, 0, 0, 4, 0, 1, 0);
    LeaseGates y = new LeaseGates();
    y.carry(Scene.ask(y, 1, 0, 1));
    y.key(0, 1, 10);
    y.tick(998);
    y.key(0, 9001, 10);
    y.tick(1);
    checks.due("a thousandth less than 10", y.root(0, 1), 9999);
    checks.due("half of 9 too", answer(y, Scene.ask(y, 0, 0, 5)), 1, 0, 0, 4, 0, 1, 0);
  }

  private static void nothingIsFree() {
    LeaseGates x = new LeaseGates();
    x.weight(0, 0, 100);
    checks.due("nothing, and no number", answer(x, Scene.ask(x, 0, 0, 1)), 1, 0, 0, 0, 0, 1, -1);
    checks.due("no LOAN", Scene.root(x, 0), 0, 0, 0, 0);
  }

  /** "(this one also)": a gate that asks alone gets all that is free. */
  private static void alone() {
    LeaseGates x = Scene.full(9, 0);
    x.weight(0, 0, 7);
    checks.due("all 9", answer(x, Scene.ask(x, 0, 0, 5)), 1, 0, 0, 9, 0, 1, 0);
  }

  /** "divided by the sum of the WEIGHTS (...), rounded down". */
  private static void partIsRoundedDown() {
    int[][] due = {{2, 1}, {3, 1}, {4, 2}, {99, 49}, {100, 50}};
    for (int[] row : due) {
      LeaseGates x = withAnother(row[0]);
      int grant = Scene.answer(x, Scene.ask(x, 0, 0, 100));
      checks.due("half of " + row[0], x.message(grant, 3), row[1]);
    }
    LeaseGates y = withAnother(100);
    y.weight(0, 0, 2);
    checks.due("two thirds of 100", answer(y, Scene.ask(y, 0, 0, 100)), 1, 0, 0, 66, 0, 1, 0);
  }

  private static void partIsBelowOne() {
    LeaseGates x = withAnother(1);
    checks.due("half of 1", answer(x, Scene.ask(x, 0, 0, 1)), 1, 0, 0, 0, 0, 1, -1);
    checks.due("no LOAN", Scene.root(x, 0), 0, 1000, 0, 0);
  }

  /** "not 1 .. 100" of a WEIGHT: both ends. */
  private static void leastAndGreatestWeight() {
    LeaseGates x = withAnother(100);
    x.weight(1, 0, 100);
    x.weight(0, 0, 1);
    checks.due("1 of 101 parts", answer(x, Scene.ask(x, 0, 0, 100)), 1, 0, 0, 0, 0, 1, -1);
    LeaseGates y = withAnother(100);
    y.weight(1, 0, 99);
    checks.due("1 of 100 parts", answer(y, Scene.ask(y, 0, 0, 100)), 1, 0, 0, 1, 0, 1, 0);
    LeaseGates z = withAnother(100);
    z.weight(0, 0, 100);
    checks.due("100 of 101 parts", answer(z, Scene.ask(z, 0, 0, 100)), 1, 0, 0, 99, 0, 1, 0);
  }

  /** "less than 1000 milliseconds of the ROOT's CLOCK ago". */
  private static void askedLessThanASecondAgo() {
    int[][] due = {{1, 50}, {999, 50}, {1000, 100}, {1001, 100}};
    for (int[] row : due) {
      LeaseGates x = withAnother(100);
      // The bucket was filled in the first millisecond.
      if (row[0] > 1) {
        x.tick(row[0] - 1);
      }
      int grant = Scene.answer(x, Scene.ask(x, 0, 0, 100));
      checks.due("another asked " + row[0] + " ago", x.message(grant, 3), row[1]);
    }
  }

  private static void secondOfTheRootsClock() {
    LeaseGates x = withAnother(100);
    x.speed(LeaseGates.NONE, 999);
    x.tick(999);
    checks.due("CLOCK at 999.001", x.clock(LeaseGates.NONE), 999);
    checks.due("999 ago, though 1000 of true time", answer(x, Scene.ask(x, 0, 0, 100)), 1, 0, 0, 50, 0, 1, 0);
    LeaseGates y = withAnother(100);
    y.speed(LeaseGates.NONE, 1001);
    y.speed(0, 999);
    y.speed(1, 999);
    y.tick(999);
    checks.due("1000 ago, though less on the gates' CLOCKS", answer(y, Scene.ask(y, 0, 0, 100)), 1, 0, 0, 100, 0, 1, 0);
  }

  private static void askedTwiceCountsOnce() {
    LeaseGates x = new LeaseGates();
    x.carry(Scene.ask(x, 0, 0, 100));
    x.tick(500);
    int second = Scene.ask(x, 0, 0, 100);
    Scene.fill(x, 0, 100, 0);
    checks.due("all is for the one that asks", answer(x, second), 1, 0, 0, 100, 0, 2, 0);
    LeaseGates y = new LeaseGates();
    y.carry(Scene.ask(y, 1, 0, 100));
    y.tick(500);
    y.carry(Scene.ask(y, 1, 0, 100));
    y.tick(998);
    Scene.fill(y, 0, 100, 0);
    checks.due("its last ask was 999 ago", answer(y, Scene.ask(y, 0, 0, 100)), 1, 0, 0, 50, 0, 1, 0);
  }

  /** An ASK of a lower BIRTH or COUNT is nothing: it is no asking NOW either. */
  private static void whatIsNothingDoesNotCount() {
    LeaseGates x = new LeaseGates();
    int first = Scene.ask(x, 1, 0, 100);
    x.tick(500);
    x.carry(Scene.ask(x, 1, 0, 100));
    x.tick(999);
    checks.due("a lower COUNT", x.carry(first), false);
    Scene.fill(x, 0, 100, 0);
    checks.due("the last was 1000 ago", answer(x, Scene.ask(x, 0, 0, 100)), 1, 0, 0, 100, 0, 1, 0);
    LeaseGates y = new LeaseGates();
    int before = Scene.ask(y, 1, 0, 100);
    y.restart(1);
    y.carry(Scene.ask(y, 1, 1, 100));
    checks.due("a lower BIRTH", y.carry(before), false);
    Scene.fill(y, 0, 100, 0);
    checks.due("it never asked for this key", answer(y, Scene.ask(y, 0, 0, 100)), 1, 0, 0, 100, 0, 1, 0);
  }

  /** "(not again)". */
  private static void whatIsAskedAgainDoesNotCount() {
    LeaseGates x = new LeaseGates();
    int ask = Scene.ask(x, 1, 0, 100);
    x.carry(ask);
    x.tick(999);
    checks.due("again", x.carry(ask), true);
    Scene.fill(x, 0, 100, 0);
    checks.due("the last was 1000 ago", answer(x, Scene.ask(x, 0, 0, 100)), 1, 0, 0, 100, 0, 1, 0);
  }

  /** "all GATES that asked for this key". */
  private static void askedForAnotherKeyDoesNotCount() {
    LeaseGates x = new LeaseGates();
    x.weight(1, 0, 100);
    x.weight(0, 1, 100);
    x.carry(Scene.ask(x, 1, 1, 1));
    Scene.fill(x, 0, 100, 0);
    checks.due("all is for the one that asks", answer(x, Scene.ask(x, 0, 0, 100)), 1, 0, 0, 100, 0, 1, 0);
    x.take(2, 0, 1);
    x.work(2);
    Scene.fill(x, 1, 100, 0);
    checks.due("an ASK that is not carried does not count", answer(x, Scene.ask(x, 2, 1, 100)), 1, 2, 1, 50, 0, 1, 1);
  }

  private static void oneThatGotAllItAskedForCounts() {
    LeaseGates x = Scene.full(100, 0);
    Scene.lend(x, 1, 0, 10);
    checks.due("half of 80", answer(x, Scene.ask(x, 0, 0, 100)), 1, 0, 0, 40, 0, 1, 1);
    checks.due("a third of 40", answer(x, Scene.ask(x, 2, 0, 100)), 1, 2, 0, 13, 0, 1, 2);
  }

  /** "What is granted goes from LEVEL". */
  private static void wholeTokensGoFromLevel() {
    LeaseGates x = new LeaseGates();
    x.key(0, 1, 10);
    x.tick(3777);
    checks.due("3 of 3777", answer(x, Scene.ask(x, 0, 0, 100)), 1, 0, 0, 3, 0, 1, 0);
    checks.due("777 stay", Scene.root(x, 0), 0, 777, 3, 1);
  }

  /** "on LOAN under a number, from 0 on": a GRANT of nothing uses up none. */
  private static void numbersFromNoughtOn() {
    LeaseGates x = Scene.full(10, 0);
    checks.due("nothing", answer(x, Scene.ask(x, 0, 1, 1)), 1, 0, 1, 0, 0, 1, -1);
    checks.due("number 0", answer(x, Scene.ask(x, 0, 0, 2)), 1, 0, 0, 4, 0, 1, 0);
    checks.due("nothing once more", answer(x, Scene.ask(x, 1, 1, 1)), 1, 1, 1, 0, 0, 1, -1);
    checks.due("number 1", answer(x, Scene.ask(x, 1, 0, 2)), 1, 1, 0, 4, 0, 1, 1);
    x.tick(2000);
    checks.due("all are over", x.root(0, 3), 0);
    checks.due("number 2", answer(x, Scene.ask(x, 2, 0, 1)), 1, 2, 0, 2, 0, 1, 2);
  }

  /** "The LENGTH of LOANS from now on.": that of the time when the ROOT answers. */
  private static void lengthOfThatTime() {
    LeaseGates x = Scene.full(100, 0);
    x.length(9000);
    int ask = Scene.ask(x, 0, 0, 1);
    x.length(10);
    int grant = Scene.answer(x, ask);
    x.length(9000);
    x.carry(grant);
    x.tick(8);
    checks.due("LIVE", x.gate(0, 0, 0), 2);
    x.tick(1);
    checks.due("not LIVE", x.gate(0, 0, 0), 0);
    checks.due("on LOAN", x.root(0, 3), 1);
    x.tick(1);
    checks.due("over", x.root(0, 3), 0);
  }
}
