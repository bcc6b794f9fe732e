/** The document's terms, edge by edge: what a gate does when it works. */
public final class TermsWorkTest {
  private static final Checks checks = new Checks("terms, work");

  public static void main(String[] args) {
    nothingToDo();
    notLiveIsGone();
    halfOfItsTimeIsGivenBack();
    halfByTheGatesOwnClock();
    givenBackWithWhatIsLeft();
    onlyThoseWithHalfOfTheirTimeGone();
    returnsInTheOrderOfNumbers();
    demandIsHalvedAndRoundedDown();
    twiceDemandIsJustWhatIsLive();
    twiceDemandIsOneAboveWhatIsLive();
    whatIsGivenBackIsNotLive();
    openForHalfASecond();
    openAnewFromThen();
    openForOneKeyAlone();
    greatDemand();
    keysFromNoughtOn();
    gatesAreApart();
    checks.end();
  }

  /** Gate 0 holds 2 n tokens, with a DEMAND of n. */
  private static LeaseGates holding(int length, int n) {
    LeaseGates x = Scene.full(100, 0);
    x.length(length);
    Scene.lend(x, 0, 0, n);
    return x;
  }

  private static void nothingToDo() {
    LeaseGates x = Scene.full(100, 100);
    String before = Scene.all(x);
    for (int gate = 0; gate < 6; gate++) {
      checks.due("gate " + gate, x.work(gate), 0);
    }
    checks.due("all", Scene.all(x), before);
  }

  /** "HOLDS that are not LIVE are gone": with no RETURN; a millisecond before there is one. */
  private static void notLiveIsGone() {
    for (int late = 997; late <= 999; late++) {
      LeaseGates x = holding(1000, 1);
      x.work(0);
      x.tick(late);
      checks.due("messages after " + late, x.work(0), late < 998 ? 1 : 0);
      checks.due("HOLDS after " + late, x.gate(0, 0, 1), 0);
    }
  }

  /** "each one of which half (at least) of that time has gone by is given back". */
  private static void halfOfItsTimeIsGivenBack() {
    int[][] halves = {{10, 5}, {11, 5}, {500, 250}, {501, 250}, {1000, 499}, {2000, 998}, {8999, 4491}, {9000, 4491}};
    for (int[] half : halves) {
      LeaseGates x = holding(half[0], 1);
      x.work(0);
      x.tick(half[1] - 1);
      checks.due("before half of " + half[0], x.work(0), 0);
      checks.due("a HOLD before half of " + half[0], Scene.gate(x, 0, 0), 2, 1, 0, 0, 1, 0, 1);
      x.tick(1);
      checks.due("at half of " + half[0], x.work(0), 1);
      checks.due("no HOLD at half of " + half[0], Scene.gate(x, 0, 0), 0, 0, 0, 0, 1, 0, 1);
      checks.due("its RETURN", Scene.message(x, 2), 2, 0, 0, 2, 0, -1, 0);
    }
  }

  private static void halfByTheGatesOwnClock() {
    LeaseGates x = holding(1000, 1);
    x.work(0);
    x.speed(0, 999);
    x.tick(499);
    checks.due("498.501", x.work(0), 0);
    x.tick(1);
    checks.due("499.500", x.work(0), 1);
  }

  /** "a RETURN (its BIRTH, the HOLD's number, key and tokens left)". */
  private static void givenBackWithWhatIsLeft() {
    for (int spent = 1; spent <= 8; spent++) {
      LeaseGates x = holding(1000, 4);
      x.take(0, 0, spent);
      x.tick(499);
      int messages = x.work(0);
      if (spent < 8) {
        checks.due("RETURN and ASK, spent " + spent, messages, 2);
        checks.due("the RETURN, spent " + spent, Scene.message(x, 2), 2, 0, 0, 8 - spent, 0, -1, 0);
      } else {
        checks.due("an ASK alone, all is spent", messages, 1);
        checks.due("the ASK", x.message(2, 0), 0);
      }
    }
  }

  private static void onlyThoseWithHalfOfTheirTimeGone() {
    LeaseGates x = holding(1000, 1);
    x.tick(1);
    Scene.lend(x, 0, 0, 3);
    checks.due("two HOLDS", Scene.gate(x, 0, 0), 6, 2, 3, 0, 2, 0, 2);
    x.work(0);
    x.work(0);
    x.tick(498);
    checks.due("the first is given back", x.work(0), 1);
    checks.due("it was the first", Scene.message(x, 4), 2, 0, 0, 2, 0, -1, 0);
    checks.due("the second stays", Scene.gate(x, 0, 0), 4, 1, 0, 0, 2, 0, 2);
    x.tick(1);
    checks.due("the second is given back", x.work(0), 1);
    checks.due("it was the second", Scene.message(x, 5), 2, 0, 0, 4, 0, -1, 1);
  }

  /** "is sent, in the order of numbers": not of ends. */
  private static void returnsInTheOrderOfNumbers() {
    LeaseGates x = holding(2000, 4);
    x.length(1500);
    Scene.lend(x, 0, 0, 9);
    x.length(1000);
    Scene.lend(x, 0, 0, 23);
    checks.due("three HOLDS", x.gate(0, 0, 1), 3);
    x.tick(997);
    checks.due("all are LIVE", x.gate(0, 0, 0), 56);
    x.tick(1);
    checks.due("the third is not LIVE", x.gate(0, 0, 0), 22);
    x.work(0);
    checks.due("the first", Scene.message(x, 6), 2, 0, 0, 8, 0, -1, 0);
    checks.due("the second", Scene.message(x, 7), 2, 0, 0, 14, 0, -1, 1);
    checks.due("then the ASK", x.message(8, 0), 0);
    checks.due("no RETURN of the third", x.sent(), 9);
  }

  /** "DEMAND becomes USE + DEMAND / 2, USE is 0." */
  private static void demandIsHalvedAndRoundedDown() {
    LeaseGates x = new LeaseGates();
    x.take(0, 0, 7);
    int[] due = {7, 3, 1, 0, 0};
    for (int i = 0; i < due.length; i++) {
      x.work(0);
      checks.due("DEMAND, work " + i, x.gate(0, 0, 2), due[i]);
      checks.due("USE, work " + i, x.gate(0, 0, 3), 0);
    }
    x.take(0, 0, 3);
    x.work(0);
    x.take(0, 0, 1);
    x.work(0);
    checks.due("1 + 3 / 2", x.gate(0, 0, 2), 2);
  }

  /** "If twice DEMAND is above the tokens that it has LIVE": 10 is not above 10. */
  private static void twiceDemandIsJustWhatIsLive() {
    LeaseGates x = holding(2000, 6);
    x.take(0, 0, 2);
    checks.due("no ASK", x.work(0), 0);
    checks.due("LIVE 10, DEMAND 5", Scene.gate(x, 0, 0), 10, 1, 5, 0, 1, 0, 0);
  }

  private static void twiceDemandIsOneAboveWhatIsLive() {
    LeaseGates x = holding(2000, 7);
    x.take(0, 0, 3);
    checks.due("an ASK", x.work(0), 1);
    checks.due("LIVE 11, DEMAND 6", Scene.gate(x, 0, 0), 11, 1, 6, 0, 2, 1, 0);
    checks.due("for the difference", Scene.message(x, 2), 0, 0, 0, 1, 0, 2, -1);
  }

  private static void whatIsGivenBackIsNotLive() {
    LeaseGates x = holding(1000, 6);
    x.take(0, 0, 2);
    x.tick(499);
    checks.due("a RETURN and an ASK", x.work(0), 2);
    checks.due("the ASK", Scene.message(x, 3), 0, 0, 0, 10, 0, 2, -1);
    LeaseGates y = holding(1000, 6);
    y.tick(998);
    checks.due("not LIVE, and an ASK", y.work(0), 1);
    checks.due("that ASK", Scene.message(y, 2), 0, 0, 0, 6, 0, 2, -1);
  }

  /** "no ask is OPEN, or one for 500 milliseconds of its CLOCK or more". */
  private static void openForHalfASecond() {
    int[][] due = {{999, 501}, {1000, 500}, {1001, 500}};
    for (int[] row : due) {
      LeaseGates x = new LeaseGates();
      x.speed(0, row[0]);
      x.take(0, 0, 1000);
      x.work(0);
      x.tick(row[1] - 1);
      checks.due("CLOCK at SPEED " + row[0], x.clock(0), 499);
      checks.due("too early at SPEED " + row[0], x.work(0), 0);
      checks.due("DEMAND fades at SPEED " + row[0], Scene.gate(x, 0, 0), 0, 0, 500, 0, 1, 1, 1);
      x.tick(1);
      checks.due("an ASK at SPEED " + row[0], x.work(0), 1);
      checks.due("COUNT at SPEED " + row[0], Scene.gate(x, 0, 0), 0, 0, 250, 0, 2, 1, 1);
    }
    LeaseGates y = new LeaseGates();
    y.take(0, 0, 1000);
    y.work(0);
    y.tick(5000);
    checks.due("for much longer", y.work(0), 1);
  }

  /** "it is OPEN from now on." */
  private static void openAnewFromThen() {
    LeaseGates x = new LeaseGates();
    x.take(0, 0, 10000);
    x.work(0);
    x.tick(600);
    checks.due("a second ASK", x.work(0), 1);
    x.tick(499);
    checks.due("1099 since the first, 499 since the second", x.work(0), 0);
    x.tick(1);
    checks.due("500 since the second", x.work(0), 1);
    checks.due("COUNT", x.message(2, 5), 3);
  }

  private static void openForOneKeyAlone() {
    LeaseGates x = new LeaseGates();
    x.take(0, 3, 1000);
    x.work(0);
    x.take(0, 4, 10);
    checks.due("an ASK for another key", x.work(0), 1);
    checks.due("that ASK", Scene.message(x, 1), 0, 0, 4, 20, 0, 1, -1);
    checks.due("none for the first", Scene.gate(x, 0, 3), 0, 0, 500, 0, 1, 1, 1);
  }

  private static void greatDemand() {
    LeaseGates x = new LeaseGates();
    for (int i = 0; i < 500; i++) {
      x.take(0, 0, 10000);
    }
    x.work(0);
    checks.due("DEMAND", Scene.gate(x, 0, 0), 0, 0, 5000000, 0, 1, 1, 500);
    checks.due("the ASK", x.message(0, 3), 10000000);
  }

  /** "for each key, from 0 on": all of a key before the next. */
  private static void keysFromNoughtOn() {
    LeaseGates x = new LeaseGates();
    for (int key = 7; key >= 0; key--) {
      Scene.fill(x, key, 100, 0);
      Scene.lend(x, 2, key, 3);
    }
    x.tick(1500);
    for (int key = 7; key >= 0; key--) {
      x.take(2, key, 50);
    }
    int first = x.sent();
    checks.due("RETURN and ASK for each", x.work(2), 16);
    for (int key = 0; key < 8; key++) {
      checks.due("kind, RETURN of " + key, x.message(first + 2 * key, 0), 2);
      checks.due("key, RETURN of " + key, x.message(first + 2 * key, 2), key);
      checks.due("kind, ASK for " + key, x.message(first + 2 * key + 1, 0), 0);
      checks.due("key, ASK for " + key, x.message(first + 2 * key + 1, 2), key);
    }
  }

  private static void gatesAreApart() {
    LeaseGates x = holding(1000, 4);
    x.take(1, 0, 5);
    x.tick(600);
    checks.due("gate 1", x.work(1), 1);
    checks.due("gate 0 did not work", Scene.gate(x, 0, 0), 8, 1, 4, 0, 1, 0, 1);
  }
}
