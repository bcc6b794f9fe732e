/** The document's terms, edge by edge: a return at the root, and a grant at its gate. */
public final class TermsReturnsAndGrantsTest {
  private static final Checks checks = new Checks("terms, returns and grants");

  public static void main(String[] args) {
    returnOfOneToken();
    returnOfAllTokens();
    returnAtTheLastMillisecond();
    returnAtTheEnd();
    returnThatCameBefore();
    returnOfALowerBirth();
    returnIntoAFullBucket();
    returnWhileMoreIsLentThanTheBurst();
    returnEndsItsLoanAlone();
    returnLetsTheLevelGrow();
    grantOfALowerBirth();
    grantWhenNoAskIsOpen();
    grantOfALowerCount();
    grantOfNothing();
    grantForAnotherKeyThanTheOpenOne();
    grantOfOneToken();
    grantAfterManyAsks();
    restartKeepsBirthsGoingUp();
    restartOfOneGateAlone();
    checks.end();
  }

  /** Gate 0 was lent 20 of 100 tokens of key 0 for a second, spent so many, and gave the rest back half a second later. */
  private static LeaseGates returned(int spent) {
    LeaseGates x = Scene.full(100, 0);
    x.length(1000);
    Scene.lend(x, 0, 0, 10);
    if (spent > 0) {
      x.take(0, 0, spent);
    }
    x.tick(500);
    x.work(0);
    checks.due("the RETURN", Scene.message(x, 2), 2, 0, 0, 20 - spent, 0, -1, 0);
    return x;
  }

  /** "its tokens left come back to LEVEL". */
  private static void returnOfOneToken() {
    LeaseGates x = returned(19);
    checks.due("something", x.carry(2), true);
    checks.due("one comes back", Scene.root(x, 0), 19, 81000, 0, 0);
  }

  private static void returnOfAllTokens() {
    LeaseGates x = returned(0);
    checks.due("something", x.carry(2), true);
    checks.due("all come back", Scene.root(x, 0), 0, 100000, 0, 0);
  }

  /** "A RETURN whose number is on LOAN": it still is a millisecond before its end. */
  private static void returnAtTheLastMillisecond() {
    LeaseGates x = returned(5);
    x.tick(499);
    checks.due("something", x.carry(2), true);
    checks.due("15 come back", Scene.root(x, 0), 5, 95000, 0, 0);
  }

  /** "Else it is nothing." */
  private static void returnAtTheEnd() {
    LeaseGates x = returned(5);
    x.tick(500);
    String before = Scene.all(x);
    checks.due("nothing", x.carry(2), false);
    checks.due("all", Scene.all(x), before);
  }

  private static void returnThatCameBefore() {
    LeaseGates x = returned(5);
    x.carry(2);
    String before = Scene.all(x);
    checks.due("nothing", x.carry(2), false);
    checks.due("all", Scene.all(x), before);
  }

  /** "An ASK or RETURN of a lower one is nothing." */
  private static void returnOfALowerBirth() {
    LeaseGates x = returned(5);
    x.restart(0);
    x.carry(Scene.ask(x, 0, 3, 1));
    String before = Scene.all(x);
    checks.due("nothing", x.carry(2), false);
    checks.due("all", Scene.all(x), before);
    LeaseGates y = returned(5);
    y.restart(0);
    Scene.ask(y, 0, 3, 1);
    checks.due("the ROOT has not heard of the restart", y.carry(2), true);
    LeaseGates z = returned(5);
    z.restart(1);
    z.carry(Scene.ask(z, 1, 0, 1));
    checks.due("another gate's restart", z.carry(2), true);
  }

  /** "(as much as may be)". */
  private static void returnIntoAFullBucket() {
    int[][] due = {{100, 95000}, {95, 90000}, {80, 75000}, {76, 71000}, {75, 70000}, {20, 15000}, {19, 15000},
        {16, 15000}, {15, 15000}, {14, 14000}, {1, 1000}, {0, 0}};
    for (int[] row : due) {
      LeaseGates x = returned(5);
      x.key(0, 0, row[0]);
      x.carry(2);
      checks.due("BURST " + row[0], Scene.root(x, 0), 5, row[1], 0, 0);
    }
    LeaseGates y = Scene.full(100, 0);
    Scene.lend(y, 0, 0, 10);
    y.key(0, 1000, 90);
    y.tick(1000);
    y.work(0);
    checks.due("full but for the LOAN", Scene.root(y, 0), 0, 70000, 20, 1);
    y.carry(2);
    checks.due("full", Scene.root(y, 0), 0, 90000, 0, 0);
  }

  private static void returnWhileMoreIsLentThanTheBurst() {
    int[][] due = {{29, 0}, {30, 0}, {31, 1000}, {44, 14000}, {45, 15000}, {46, 15000}};
    for (int[] row : due) {
      LeaseGates x = returned(5);
      Scene.lend(x, 1, 0, 15);
      x.key(0, 0, 0);
      x.key(0, 0, row[0]);
      checks.due("BURST " + row[0] + ", LENT 50", Scene.root(x, 0), 5, 0, 50, 2);
      checks.due("something", x.carry(2), true);
      checks.due("BURST " + row[0] + ", LENT 30", Scene.root(x, 0), 5, row[1], 30, 1);
    }
  }

  private static void returnEndsItsLoanAlone() {
    LeaseGates x = returned(5);
    Scene.lend(x, 1, 0, 1);
    Scene.fill(x, 1, 10, 0);
    Scene.lend(x, 0, 1, 1);
    checks.due("key 0 before", Scene.root(x, 0), 5, 78000, 22, 2);
    x.carry(2);
    checks.due("key 0", Scene.root(x, 0), 5, 93000, 2, 1);
    checks.due("key 1", Scene.root(x, 1), 0, 8000, 2, 1);
    x.tick(499);
    checks.due("at the end of the first there is no other", Scene.root(x, 0), 5, 93000, 2, 1);
  }

  private static void returnLetsTheLevelGrow() {
    LeaseGates x = returned(5);
    x.key(0, 1000, 100);
    x.tick(1);
    checks.due("full but for the LOAN", x.root(0, 1), 80000);
    x.carry(2);
    x.tick(4);
    checks.due("a step below", x.root(0, 1), 99000);
    x.tick(1);
    checks.due("full", x.root(0, 1), 100000);
  }

  /** "A GRANT at its GATE is nothing if its BIRTH is not that of now". */
  private static void grantOfALowerBirth() {
    LeaseGates x = Scene.full(100, 0);
    int grant = Scene.answer(x, Scene.ask(x, 0, 0, 10));
    x.restart(0);
    Scene.ask(x, 0, 0, 3);
    String before = Scene.all(x);
    checks.due("nothing, though COUNT is that of the open ask", x.carry(grant), false);
    checks.due("all", Scene.all(x), before);
  }

  /** "or no ask of this key is OPEN". */
  private static void grantWhenNoAskIsOpen() {
    LeaseGates x = Scene.full(100, 0);
    int grant = Scene.lend(x, 0, 0, 10);
    String before = Scene.all(x);
    checks.due("nothing", x.carry(grant), false);
    checks.due("all", Scene.all(x), before);
    LeaseGates y = Scene.full(100, 0);
    int lost = Scene.answer(y, Scene.ask(y, 0, 0, 10));
    y.restart(0);
    checks.due("nothing behind a restart", y.carry(lost), false);
    checks.due("no HOLD behind a restart", Scene.gate(y, 0, 0), 0, 0, 0, 0, 0, 0, 0);
  }

  /** "or its COUNT is not COUNT". */
  private static void grantOfALowerCount() {
    LeaseGates x = Scene.full(100, 0);
    int grant = Scene.answer(x, Scene.ask(x, 0, 0, 10));
    x.tick(500);
    x.work(0);
    String before = Scene.all(x);
    checks.due("nothing", x.carry(grant), false);
    checks.due("all", Scene.all(x), before);
  }

  /** "Else no ask is OPEN any more, and with tokens above 0 there is a HOLD of them". */
  private static void grantOfNothing() {
    LeaseGates x = new LeaseGates();
    int grant = Scene.answer(x, Scene.ask(x, 0, 0, 10));
    checks.due("something", x.carry(grant), true);
    checks.due("no HOLD", Scene.gate(x, 0, 0), 0, 0, 10, 0, 1, 0, 1);
    checks.due("once", x.carry(grant), false);
  }

  private static void grantOfOneToken() {
    LeaseGates x = Scene.full(1, 0);
    int grant = Scene.answer(x, Scene.ask(x, 0, 0, 10));
    checks.due("something", x.carry(grant), true);
    checks.due("a HOLD", Scene.gate(x, 0, 0), 1, 1, 10, 0, 1, 0, 1);
  }

  private static void grantForAnotherKeyThanTheOpenOne() {
    LeaseGates x = Scene.full(100, 0);
    int grant = Scene.lend(x, 0, 0, 10);
    Scene.ask(x, 0, 1, 3);
    checks.due("key 1 has an ask OPEN", x.gate(0, 1, 5), 1);
    checks.due("key 0 has none", x.carry(grant), false);
    checks.due("key 1 is as it was", Scene.gate(x, 0, 1), 0, 0, 3, 0, 1, 1, 1);
  }

  private static void grantAfterManyAsks() {
    LeaseGates x = Scene.full(100, 0);
    int first = Scene.answer(x, Scene.ask(x, 0, 0, 4));
    x.tick(500);
    x.work(0);
    x.tick(500);
    x.take(0, 0, 4);
    x.work(0);
    int last = Scene.answer(x, x.sent() - 1);
    checks.due("the first", x.carry(first), false);
    checks.due("the last", x.carry(last), true);
    checks.due("a HOLD of it", Scene.gate(x, 0, 0), 10, 1, 5, 0, 3, 0, 2);
    checks.due("the first still", x.carry(first), false);
  }

  /** "BIRTH (0, one more with each restart)". */
  private static void restartKeepsBirthsGoingUp() {
    LeaseGates x = new LeaseGates();
    Scene.ask(x, 5, 0, 1);
    checks.due("at first", x.message(0, 4), 0);
    for (int birth = 1; birth <= 400; birth++) {
      checks.due("BIRTH", x.restart(5), birth);
    }
    Scene.ask(x, 5, 0, 1);
    checks.due("at last", Scene.message(x, 1), 0, 5, 0, 2, 400, 1, -1);
  }

  /** "it has but its CLOCK, SPEED, WEIGHTS and BIRTH". */
  private static void restartOfOneGateAlone() {
    LeaseGates x = Scene.full(100, 0);
    x.weight(0, 0, 3);
    x.speed(0, 1001);
    Scene.lend(x, 0, 0, 10);
    Scene.lend(x, 1, 0, 10);
    x.tick(999);
    x.restart(0);
    checks.due("CLOCK", x.clock(0), 1000);
    checks.due("nothing else", Scene.gate(x, 0, 0), 0, 0, 0, 0, 0, 0, 0);
    checks.due("another gate", Scene.gate(x, 1, 0), 20, 1, 10, 0, 1, 0, 1);
    checks.due("the ROOT", Scene.root(x, 0), 0, 60000, 40, 2);
    x.tick(1);
    checks.due("SPEED and thousandths", x.clock(0), 1002);
    x.carry(Scene.ask(x, 1, 0, 1000));
    x.key(0, 100000, 200);
    x.tick(1);
    int free = x.root(0, 1) / 1000;
    int grant = Scene.answer(x, Scene.ask(x, 0, 0, 1000));
    checks.due("WEIGHT", x.message(grant, 3), free * 3 / 4);
  }
}
