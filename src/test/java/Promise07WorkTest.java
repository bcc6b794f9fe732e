public final class Promise07WorkTest {
  private static final Checks checks = new Checks("promise 7, work");

  public static void main(String[] args) {
    demandFollowsUse();
    asksForTwiceDemandLessWhatIsLive();
    asksAnewAfterHalfASecond();
    halfOfALifeIsGivenBack(2000, 998);
    halfOfALifeIsGivenBack(10, 5);
    halfOfALifeIsGivenBack(501, 250);
    deadHoldsAreGone();
    returnsComeInTheOrderOfNumbersBeforeTheAsk();
    keysComeInOrder();
    birthIsToldInMessages();
    noMoreThanThreeHundred();
    wrongNumbers();
    checks.end();
  }

  private static void demandFollowsUse() {
    LeaseGates x = new LeaseGates();
    x.take(0, 0, 5);
    checks.due("first", x.work(0), 1);
    checks.due("DEMAND is USE", Scene.gate(x, 0, 0), 0, 0, 5, 0, 1, 1, 1);
    x.take(0, 0, 4);
    x.work(0);
    checks.due("and half of what it was", Scene.gate(x, 0, 0), 0, 0, 6, 0, 1, 1, 2);
    x.work(0);
    x.work(0);
    checks.due("a quarter", x.gate(0, 0, 2), 1);
    x.work(0);
    checks.due("none", x.gate(0, 0, 2), 0);
    x.tick(500);
    checks.due("no DEMAND, no ask", x.work(0), 0);
    checks.due("but one is still OPEN", x.gate(0, 0, 5), 1);
  }

  private static void asksForTwiceDemandLessWhatIsLive() {
    LeaseGates x = Scene.full(100, 0);
    Scene.lend(x, 0, 0, 10);
    checks.due("ask", Scene.message(x, 0), 0, 0, 0, 20, 0, 1, -1);
    x.take(0, 0, 5);
    checks.due("LIVE 15, DEMAND 10", x.work(0), 1);
    checks.due("the difference", x.message(2, 3), 5);
    x.carry(2);
    x.carry(3);
    checks.due("LIVE 20, DEMAND 5", x.work(0), 0);
    x.take(0, 0, 8);
    checks.due("LIVE 12, DEMAND 10", x.work(0), 1);
    x.carry(4);
    x.carry(5);
    x.take(0, 0, 4);
    checks.due("LIVE 16, DEMAND 9", x.work(0), 1);
    x.carry(6);
    x.carry(7);
    x.take(0, 0, 4);
    x.take(0, 0, 1);
    checks.due("LIVE 13, DEMAND 9", x.work(0), 1);
    checks.due("the difference at last", x.message(8, 3), 5);
    LeaseGates y = Scene.full(100, 0);
    Scene.lend(y, 0, 0, 10);
    y.work(0);
    y.take(0, 0, 3);
    y.take(0, 0, 3);
    checks.due("LIVE 14, DEMAND 8", y.work(0), 1);
    y.carry(2);
    y.carry(3);
    y.take(0, 0, 1);
    y.take(0, 0, 2);
    y.take(0, 0, 1);
    checks.due("LIVE 12, DEMAND 8", y.work(0), 1);
    checks.due("the difference of those", y.message(4, 3), 4);
    LeaseGates z = Scene.full(100, 0);
    Scene.lend(z, 0, 0, 4);
    z.take(0, 0, 1);
    z.take(0, 0, 2);
    z.work(0);
    checks.due("LIVE 5, DEMAND 5", z.message(2, 3), 5);
    z.carry(2);
    z.carry(3);
    z.take(0, 0, 3);
    checks.due("LIVE 7, DEMAND 5", z.work(0), 1);
    z.carry(4);
    z.carry(5);
    z.take(0, 0, 3);
    checks.due("LIVE 7 once more", z.gate(0, 0, 0), 7);
    checks.due("DEMAND 5 once more", z.work(0), 1);
    z.carry(6);
    z.carry(7);
    z.take(0, 0, 2);
    checks.due("LIVE 8, DEMAND 4", z.work(0), 0);
    z.take(0, 0, 1);
    z.take(0, 0, 1);
    checks.due("LIVE 6, DEMAND 4", z.work(0), 1);
    z.carry(8);
    z.carry(9);
    z.take(0, 0, 1);
    checks.due("LIVE 7, DEMAND 3", z.work(0), 0);
    z.take(0, 0, 2);
    checks.due("LIVE 5, DEMAND 3", z.work(0), 1);
    checks.due("a difference of 1", z.message(10, 3), 1);
    z.carry(10);
    checks.due("a GRANT of 1", Scene.message(z, 11), 1, 0, 0, 1, 0, 6, 5);
    z.carry(11);
    checks.due("a HOLD of 1", z.gate(0, 0, 0), 6);
  }

  private static void asksAnewAfterHalfASecond() {
    LeaseGates x = new LeaseGates();
    x.speed(0, 999);
    x.take(0, 0, 1000);
    x.work(0);
    checks.due("while one is OPEN", x.work(0), 0);
    x.tick(500);
    checks.due("499 of its CLOCK", x.work(0), 0);
    x.tick(1);
    checks.due("500 of its CLOCK", x.work(0), 1);
    checks.due("COUNT", x.gate(0, 0, 4), 2);
    x.tick(499);
    checks.due("OPEN anew", x.work(0), 0);
    checks.due("sent", x.sent(), 2);
  }

  private static void halfOfALifeIsGivenBack(int length, int half) {
    LeaseGates x = Scene.full(100, 0);
    x.length(length);
    Scene.lend(x, 0, 0, 1);
    x.take(0, 0, 1);
    x.work(0);
    x.work(0);
    int sent = x.sent();
    x.tick(half - 1);
    checks.due("before half of " + length, x.work(0), 0);
    checks.due("a HOLD before half of " + length, x.gate(0, 0, 1), 1);
    x.tick(1);
    checks.due("at half of " + length, x.work(0), 1);
    checks.due("no HOLD at half of " + length, x.gate(0, 0, 1), 0);
    checks.due("RETURN", Scene.message(x, sent), 2, 0, 0, 1, 0, -1, 0);
  }

  private static void deadHoldsAreGone() {
    LeaseGates x = Scene.full(100, 0);
    Scene.lend(x, 0, 0, 1);
    x.work(0);
    x.tick(1995);
    checks.due("LIVE to the last", x.gate(0, 0, 0), 2);
    x.tick(1);
    checks.due("a HOLD that is not LIVE", x.gate(0, 0, 1), 1);
    checks.due("no RETURN of it", x.work(0), 0);
    checks.due("it is gone", x.gate(0, 0, 1), 0);
    LeaseGates y = Scene.full(100, 0);
    Scene.lend(y, 0, 0, 1);
    y.work(0);
    y.tick(1995);
    checks.due("RETURN at the last", y.work(0), 1);
  }

  private static void returnsComeInTheOrderOfNumbersBeforeTheAsk() {
    LeaseGates x = Scene.full(100, 0);
    x.length(2000);
    Scene.lend(x, 0, 0, 10);
    x.tick(10);
    x.length(1000);
    Scene.lend(x, 0, 0, 12);
    x.tick(10);
    x.length(9000);
    Scene.lend(x, 0, 0, 20);
    checks.due("HOLDS", x.gate(0, 0, 1), 3);
    x.tick(980);
    x.take(0, 0, 1000);
    checks.due("two RETURNS and an ASK", x.work(0), 3);
    checks.due("first", Scene.message(x, 6), 2, 0, 0, 8, 0, -1, 0);
    checks.due("second", Scene.message(x, 7), 2, 0, 0, 6, 0, -1, 1);
    checks.due("third", Scene.message(x, 8), 0, 0, 0, 1986, 0, 4, -1);
    checks.due("the long one is left", Scene.gate(x, 0, 0), 42, 1, 1014, 0, 4, 1, 1);
  }

  private static void keysComeInOrder() {
    LeaseGates x = new LeaseGates();
    for (int key = 7; key >= 0; key--) {
      x.take(4, key, 1 + key);
    }
    checks.due("an ASK for each key", x.work(4), 8);
    for (int key = 0; key < 8; key++) {
      checks.due("ASK for " + key, Scene.message(x, key), 0, 4, key, 2 + 2 * key, 0, 1, -1);
    }
    LeaseGates y = Scene.full(100, 0);
    Scene.lend(y, 0, 0, 3);
    Scene.fill(y, 1, 50, 0);
    Scene.lend(y, 0, 1, 3);
    y.tick(1000);
    y.take(0, 0, 50);
    y.take(0, 1, 50);
    checks.due("RETURN and ASK for both", y.work(0), 4);
    checks.due("kinds", new int[] {y.message(4, 0), y.message(5, 0), y.message(6, 0), y.message(7, 0)}, 2, 0, 2, 0);
    checks.due("keys", new int[] {y.message(4, 2), y.message(5, 2), y.message(6, 2), y.message(7, 2)}, 0, 0, 1, 1);
  }

  private static void birthIsToldInMessages() {
    LeaseGates x = Scene.full(100, 0);
    x.restart(1);
    x.restart(1);
    Scene.lend(x, 1, 0, 10);
    x.work(1);
    x.tick(1000);
    x.work(1);
    checks.due("ASK", Scene.message(x, 0), 0, 1, 0, 20, 2, 1, -1);
    checks.due("GRANT", Scene.message(x, 1), 1, 1, 0, 20, 2, 1, 0);
    checks.due("RETURN", Scene.message(x, 2), 2, 1, 0, 20, 2, -1, 0);
  }

  private static void noMoreThanThreeHundred() {
    LeaseGates x = new LeaseGates();
    for (int round = 0; round < 37; round++) {
      for (int key = 0; key < 8; key++) {
        x.take(0, key, 1);
      }
      checks.due("ASKS in round " + round, x.work(0), 8);
      x.tick(500);
    }
    checks.due("sent", x.sent(), 296);
    for (int key = 0; key < 8; key++) {
      x.take(0, key, 1);
    }
    checks.due("the last four", x.work(0), 4);
    checks.due("sent at most", x.sent(), 300);
    checks.due("an ASK that was sent", Scene.gate(x, 0, 3), 0, 0, 1, 0, 38, 1, 38);
    checks.due("an ASK that was not sent", Scene.gate(x, 0, 4), 0, 0, 1, 0, 38, 1, 38);
    checks.refused(x, "carry(300)", () -> x.carry(300));
    checks.refused(x, "message(300, 0)", () -> x.message(300, 0));
  }

  private static void wrongNumbers() {
    LeaseGates x = new LeaseGates();
    x.take(0, 0, 5);
    checks.refused(x, "work(-1)", () -> x.work(-1));
    checks.refused(x, "work(6)", () -> x.work(6));
  }
}
