public final class Promise08CarryTest {
  private static final Checks checks = new Checks("promise 8, carry");

  public static void main(String[] args) {
    askIsAnsweredAndAnsweredAgain();
    askOfLowerCountIsNothing();
    askOfLowerBirthIsNothing();
    askOfHigherBirthForgetsAnswers();
    partsOfATokenStay();
    grantComesOnce();
    grantOfAnotherCountIsNothing();
    grantOfAnotherBirthIsNothing();
    grantOfNothingEndsTheAsk();
    lateGrantIsOld();
    returnComesBackOnce();
    returnOfTheLaterOfTwoLoans();
    returnIsCutAtTheBurst();
    returnAfterTheEndIsNothing();
    returnOfLowerBirthIsNothing();
    loansAreNumberedOverAllKeys();
    allElseIsAsIfTheyWereSent();
    wrongNumbers();
    checks.end();
  }

  private static void askIsAnsweredAndAnsweredAgain() {
    LeaseGates x = Scene.full(100, 0);
    Scene.ask(x, 0, 0, 10);
    checks.due("an ASK", x.carry(0), true);
    checks.due("the GRANT", Scene.message(x, 1), 1, 0, 0, 20, 0, 1, 0);
    checks.due("on LOAN", Scene.root(x, 0), 0, 80000, 20, 1);
    checks.due("the ASK again", x.carry(0), true);
    checks.due("the same GRANT", Scene.message(x, 2), 1, 0, 0, 20, 0, 1, 0);
    checks.due("no other LOAN", Scene.root(x, 0), 0, 80000, 20, 1);
    x.tick(3000);
    checks.due("the ASK after the LOAN's end", x.carry(0), true);
    checks.due("the same GRANT still", Scene.message(x, 3), 1, 0, 0, 20, 0, 1, 0);
    checks.due("and no LOAN", Scene.root(x, 0), 0, 80000, 0, 0);
  }

  private static void askOfLowerCountIsNothing() {
    LeaseGates x = Scene.full(100, 0);
    Scene.ask(x, 0, 0, 10);
    x.tick(500);
    Scene.ask(x, 0, 0, 10);
    checks.due("the second ASK", x.carry(1), true);
    checks.due("its GRANT", Scene.message(x, 2), 1, 0, 0, 30, 0, 2, 0);
    checks.due("the first ASK, too late", x.carry(0), false);
    checks.due("no GRANT of it", x.sent(), 3);
    checks.due("the second again", x.carry(1), true);
    checks.due("one LOAN", Scene.root(x, 0), 0, 70000, 30, 1);
    x.take(0, 1, 1);
    x.work(0);
    checks.due("COUNTS of keys are apart", x.carry(4), true);
    x.take(1, 0, 1);
    x.work(1);
    checks.due("COUNTS of gates are apart", x.carry(6), true);
  }

  private static void askOfLowerBirthIsNothing() {
    LeaseGates x = Scene.full(100, 0);
    Scene.ask(x, 0, 0, 10);
    x.restart(0);
    checks.due("before the ROOT hears of the restart", x.carry(0), true);
    Scene.ask(x, 0, 1, 10);
    checks.due("an ASK of the higher BIRTH", x.carry(2), true);
    String before = Scene.all(x);
    checks.due("after that", x.carry(0), false);
    checks.due("nothing", Scene.all(x), before);
    Scene.ask(x, 1, 0, 1);
    checks.due("another gate's BIRTH is its own", x.carry(4), true);
  }

  private static void askOfHigherBirthForgetsAnswers() {
    LeaseGates x = Scene.full(100, 0);
    Scene.fill(x, 1, 100, 0);
    Scene.lend(x, 0, 0, 10);
    Scene.lend(x, 0, 1, 10);
    x.restart(0);
    x.take(0, 0, 5);
    x.take(0, 1, 5);
    x.work(0);
    checks.due("COUNT 1 once more, key 0", x.carry(4), true);
    checks.due("a GRANT of its own", Scene.message(x, 6), 1, 0, 0, 10, 1, 1, 2);
    checks.due("COUNT 1 once more, key 1", x.carry(5), true);
    checks.due("a GRANT of its own too", Scene.message(x, 7), 1, 0, 1, 10, 1, 1, 3);
    checks.due("LOANS stay", Scene.root(x, 0), 0, 70000, 30, 2);
    LeaseGates y = Scene.full(100, 0);
    Scene.lend(y, 1, 0, 10);
    y.restart(0);
    Scene.lend(y, 0, 7, 1);
    checks.due("another gate's ASK", y.carry(0), true);
    checks.due("answers to another gate are not forgotten", Scene.message(y, 4), 1, 1, 0, 20, 0, 1, 0);
  }

  private static void partsOfATokenStay() {
    LeaseGates x = new LeaseGates();
    x.key(0, 1, 10);
    x.tick(2999);
    int grant = Scene.answer(x, Scene.ask(x, 0, 0, 1));
    checks.due("two whole tokens", x.message(grant, 3), 2);
    checks.due("the thousandths stay", x.root(0, 1), 999);
    x.tick(1);
    int next = Scene.answer(x, Scene.ask(x, 1, 0, 10));
    checks.due("half of one token is none", Scene.message(x, next), 1, 1, 0, 0, 0, 1, -1);
    LeaseGates y = new LeaseGates();
    y.key(0, 1, 10);
    y.tick(999);
    int none = Scene.answer(y, Scene.ask(y, 0, 0, 1));
    checks.due("no whole token", Scene.message(y, none), 1, 0, 0, 0, 0, 1, -1);
    checks.due("no LOAN", Scene.root(y, 0), 0, 999, 0, 0);
  }

  private static void grantComesOnce() {
    LeaseGates x = Scene.full(100, 0);
    Scene.ask(x, 3, 0, 10);
    x.carry(0);
    x.carry(0);
    checks.due("a GRANT", x.carry(2), true);
    checks.due("a HOLD", Scene.gate(x, 3, 0), 20, 1, 10, 0, 1, 0, 1);
    checks.due("once more", x.carry(2), false);
    checks.due("its twin", x.carry(1), false);
    checks.due("one HOLD", Scene.gate(x, 3, 0), 20, 1, 10, 0, 1, 0, 1);
  }

  private static void grantOfAnotherCountIsNothing() {
    LeaseGates x = Scene.full(100, 0);
    Scene.answer(x, Scene.ask(x, 0, 0, 10));
    x.tick(500);
    Scene.ask(x, 0, 0, 10);
    checks.due("a GRANT of COUNT 1", x.carry(1), false);
    checks.due("the ask stays OPEN", Scene.gate(x, 0, 0), 0, 0, 15, 0, 2, 1, 2);
    x.carry(2);
    checks.due("a GRANT of COUNT 2", x.carry(3), true);
    checks.due("a HOLD of it", Scene.gate(x, 0, 0), 30, 1, 15, 0, 2, 0, 2);
  }

  private static void grantOfAnotherBirthIsNothing() {
    LeaseGates x = Scene.full(100, 0);
    Scene.answer(x, Scene.ask(x, 0, 0, 10));
    x.restart(0);
    Scene.ask(x, 0, 0, 10);
    checks.due("a GRANT of BIRTH 0", x.carry(1), false);
    checks.due("the ask stays OPEN", Scene.gate(x, 0, 0), 0, 0, 10, 0, 1, 1, 1);
  }

  private static void grantOfNothingEndsTheAsk() {
    LeaseGates x = new LeaseGates();
    Scene.answer(x, Scene.ask(x, 0, 0, 10));
    checks.due("a GRANT of nothing", x.carry(1), true);
    checks.due("no HOLD, no ask OPEN", Scene.gate(x, 0, 0), 0, 0, 10, 0, 1, 0, 1);
    checks.due("it may ask at once", x.work(0), 1);
  }

  private static void lateGrantIsOld() {
    LeaseGates x = Scene.full(100, 0);
    int grant = Scene.answer(x, Scene.ask(x, 0, 0, 10));
    x.tick(1995);
    x.carry(grant);
    checks.due("LIVE since it was asked for", x.gate(0, 0, 0), 20);
    x.tick(1);
    checks.due("not LIVE any more", x.gate(0, 0, 0), 0);
    LeaseGates y = Scene.full(100, 0);
    int late = Scene.answer(y, Scene.ask(y, 0, 0, 10));
    y.tick(5000);
    checks.due("later than all its time", y.carry(late), true);
    checks.due("a HOLD that was never LIVE", Scene.gate(y, 0, 0), 0, 1, 10, 0, 1, 0, 1);
  }

  /** Gate 0 was lent 20 of 100 tokens, spent 5 and gave 15 back with message 2, a second after it asked. */
  private static LeaseGates returned(int rate) {
    LeaseGates x = Scene.full(100, rate);
    Scene.lend(x, 0, 0, 10);
    x.take(0, 0, 5);
    x.tick(1000);
    x.work(0);
    checks.due("the RETURN", Scene.message(x, 2), 2, 0, 0, 15, 0, -1, 0);
    return x;
  }

  private static void returnComesBackOnce() {
    LeaseGates x = returned(0);
    checks.due("a RETURN", x.carry(2), true);
    checks.due("15 come back", Scene.root(x, 0), 5, 95000, 0, 0);
    checks.due("once more", x.carry(2), false);
    checks.due("nothing comes back", Scene.root(x, 0), 5, 95000, 0, 0);
  }

  private static void returnOfTheLaterOfTwoLoans() {
    LeaseGates x = Scene.full(100, 0);
    Scene.lend(x, 1, 0, 5);
    Scene.lend(x, 2, 0, 7);
    x.tick(1000);
    x.work(2);
    checks.due("the later", Scene.message(x, 4), 2, 2, 0, 14, 0, -1, 1);
    checks.due("comes back", x.carry(4), true);
    checks.due("the earlier stays", Scene.root(x, 0), 0, 90000, 10, 1);
  }

  private static void returnIsCutAtTheBurst() {
    LeaseGates x = returned(0);
    x.key(0, 0, 85);
    checks.due("BURST 85, LENT 20", Scene.root(x, 0), 5, 65000, 20, 1);
    x.carry(2);
    checks.due("15 more", x.root(0, 1), 80000);
    LeaseGates y = returned(0);
    y.key(0, 0, 10);
    y.carry(2);
    checks.due("as much as may be", Scene.root(y, 0), 5, 10000, 0, 0);
    LeaseGates z = returned(2);
    checks.due("full but for the LOAN", z.root(0, 1), 80000);
    z.carry(2);
    checks.due("with what was not spent", z.root(0, 1), 95000);
    z.tick(2499);
    checks.due("and with time", z.root(0, 1), 99998);
  }

  private static void returnAfterTheEndIsNothing() {
    LeaseGates x = returned(0);
    x.tick(1000);
    checks.due("the LOAN is over", Scene.root(x, 0), 5, 80000, 0, 0);
    checks.due("a RETURN too late", x.carry(2), false);
    checks.due("what was lent is spent", Scene.root(x, 0), 5, 80000, 0, 0);
    LeaseGates y = returned(0);
    y.tick(999);
    checks.due("a RETURN at the last", y.carry(2), true);
  }

  private static void returnOfLowerBirthIsNothing() {
    LeaseGates x = returned(0);
    x.restart(0);
    Scene.ask(x, 0, 5, 1);
    x.carry(x.sent() - 1);
    checks.due("a RETURN of BIRTH 0", x.carry(2), false);
    checks.due("the LOAN stays", Scene.root(x, 0), 5, 80000, 20, 1);
    LeaseGates y = returned(0);
    y.restart(0);
    checks.due("before the ROOT hears of the restart", y.carry(2), true);
  }

  private static void loansAreNumberedOverAllKeys() {
    LeaseGates x = new LeaseGates();
    for (int key = 0; key < 8; key++) {
      Scene.fill(x, key, 10, 0);
      int grant = Scene.lend(x, key % 6, key, 1);
      checks.due("number for key " + key, x.message(grant, 6), key);
    }
    int none = Scene.answer(x, Scene.ask(x, 2, 0, 10000));
    checks.due("tokens for gate 2", x.message(none, 3), 4);
    checks.due("number for gate 2", x.message(none, 6), 8);
  }

  private static void allElseIsAsIfTheyWereSent() {
    LeaseGates x = Scene.full(100, 0);
    int ask = Scene.ask(x, 0, 0, 10);
    for (int i = 0; i < 37; i++) {
      for (int key = 0; key < 8; key++) {
        x.take(1, key, 1);
      }
      x.work(1);
      x.tick(500);
    }
    x.take(2, 1, 1);
    x.take(2, 2, 1);
    x.take(2, 3, 1);
    x.work(2);
    checks.due("sent", x.sent(), 300);
    checks.due("an ASK whose GRANT is not sent", x.carry(ask), true);
    checks.due("is on LOAN still", Scene.root(x, 0), 0, 80000, 20, 1);
    checks.due("and was answered", x.carry(ask), true);
    checks.due("once", Scene.root(x, 0), 0, 80000, 20, 1);
    checks.due("sent at most", x.sent(), 300);
  }

  private static void wrongNumbers() {
    LeaseGates x = Scene.full(100, 0);
    Scene.lend(x, 0, 0, 10);
    checks.refused(x, "carry(-1)", () -> x.carry(-1));
    checks.refused(x, "carry(2)", () -> x.carry(2));
    checks.refused(x, "carry of the greatest", () -> x.carry(Integer.MAX_VALUE));
    x.drop(0);
    checks.refused(x, "carry of what was dropped", () -> x.carry(0));
  }
}
