public final class Promise15SentTest {
  private static final Checks checks = new Checks("promise 15, sent");

  public static void main(String[] args) {
    eachKindCounts();
    atMostThreeHundred();
    checks.end();
  }

  private static void eachKindCounts() {
    LeaseGates x = Scene.full(100, 0);
    checks.due("none", x.sent(), 0);
    x.take(0, 0, 10);
    checks.due("a take sends nothing", x.sent(), 0);
    x.work(0);
    checks.due("an ASK", x.sent(), 1);
    x.carry(0);
    checks.due("a GRANT", x.sent(), 2);
    x.carry(0);
    checks.due("the same GRANT", x.sent(), 3);
    x.carry(2);
    checks.due("a GRANT that comes sends nothing", x.sent(), 3);
    x.work(0);
    x.tick(1000);
    x.work(0);
    checks.due("a RETURN and an ASK", x.sent(), 5);
    x.carry(3);
    checks.due("a RETURN that comes sends nothing", x.sent(), 5);
    x.drop(3);
    checks.due("what is dropped was sent", x.sent(), 5);
    x.restart(0);
    checks.due("a restart sends nothing", x.sent(), 5);
  }

  private static void atMostThreeHundred() {
    LeaseGates x = new LeaseGates();
    Scene.ask(x, 0, 0, 1);
    for (int i = 0; i < 299; i++) {
      x.carry(0);
      checks.due("after " + i, x.sent(), i + 2);
    }
    checks.due("still something", x.carry(0), true);
    checks.due("at most", x.sent(), 300);
    x.drop(5);
    x.carry(0);
    checks.due("a dropped one makes no room", x.sent(), 300);
  }
}
