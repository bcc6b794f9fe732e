/** The document's terms, edge by edge: messages, and what happens when no more are sent. */
public final class TermsMessagesTest {
  private static final Checks checks = new Checks("terms, messages");

  public static void main(String[] args) {
    numbersGoFromNoughtOn();
    lastMessageIsLikeAnyOther();
    askThatIsNotSent();
    askThatIsNotSentIsOpenForHalfASecond();
    grantThatIsNotSent();
    sameGrantThatIsNotSent();
    returnThatIsNotSent();
    workThatIsSentInPart();
    droppedOnesMakeNoRoom();
    carriedAsOftenAsOneLikes();
    droppedOnesAreGone();
    checks.end();
  }

  /** Gate 0 holds 20 of 100 tokens; messages 0 and 1 were those of its ask. Then no more than so many can be sent. */
  private static LeaseGates roomFor(int messages) {
    LeaseGates x = Scene.full(100, 0);
    x.length(9000);
    Scene.lend(x, 0, 0, 10);
    Scene.sendUseless(x, 298 - messages);
    checks.due("sent", x.sent(), 300 - messages);
    return x;
  }

  /** "MESSAGES are numbered from 0 on as they are sent". */
  private static void numbersGoFromNoughtOn() {
    LeaseGates x = Scene.full(100, 0);
    checks.refused(x, "none was sent", () -> x.message(0, 0));
    Scene.ask(x, 1, 0, 1);
    checks.due("the first", Scene.message(x, 0), 0, 1, 0, 2, 0, 1, -1);
    checks.refused(x, "a second", () -> x.message(1, 0));
    x.carry(0);
    checks.due("the second", Scene.message(x, 1), 1, 1, 0, 2, 0, 1, 0);
    checks.refused(x, "a third", () -> x.message(2, 0));
  }

  /** "at most 300 are ever sent": the last of them can be read, carried and dropped. */
  private static void lastMessageIsLikeAnyOther() {
    LeaseGates x = roomFor(2);
    Scene.ask(x, 1, 0, 3);
    checks.due("sent, one is left", x.sent(), 299);
    checks.due("ASK 298", Scene.message(x, 298), 0, 1, 0, 6, 0, 1, -1);
    checks.due("it is heard", x.carry(298), true);
    checks.due("sent, none is left", x.sent(), 300);
    checks.due("GRANT 299", Scene.message(x, 299), 1, 1, 0, 6, 0, 1, 1);
    checks.due("it is heard too", x.carry(299), true);
    checks.due("gate 1", Scene.gate(x, 1, 0), 6, 1, 3, 0, 1, 0, 1);
    x.drop(299);
    checks.refused(x, "it is dropped", () -> x.message(299, 0));
    checks.refused(x, "read 300", () -> x.message(300, 0));
    checks.refused(x, "carry 300", () -> x.carry(300));
    checks.refused(x, "drop 300", () -> x.drop(300));
  }

  /** "(more are not, but all else is as if they were)": an ASK. */
  private static void askThatIsNotSent() {
    LeaseGates x = roomFor(0);
    x.take(1, 0, 3);
    checks.due("none was sent", x.work(1), 0);
    checks.due("sent", x.sent(), 300);
    checks.due("DEMAND, USE, COUNT and OPEN", Scene.gate(x, 1, 0), 0, 0, 3, 0, 1, 1, 1);
    checks.refused(x, "no number is given", () -> x.message(300, 0));
  }

  private static void askThatIsNotSentIsOpenForHalfASecond() {
    LeaseGates x = roomFor(0);
    x.take(1, 0, 300);
    x.work(1);
    x.tick(499);
    x.work(1);
    checks.due("COUNT after 499", x.gate(1, 0, 4), 1);
    x.tick(1);
    x.work(1);
    checks.due("COUNT after 500", x.gate(1, 0, 4), 2);
  }

  private static void grantThatIsNotSent() {
    LeaseGates x = roomFor(1);
    Scene.ask(x, 1, 0, 3);
    checks.due("the ASK is heard", x.carry(299), true);
    checks.due("sent", x.sent(), 300);
    checks.due("a LOAN", Scene.root(x, 0), 0, 74000, 26, 2);
    checks.due("the ask stays OPEN", x.gate(1, 0, 5), 1);
    x.tick(5000);
    x.tick(4000);
    checks.due("the LOAN ends", Scene.root(x, 0), 0, 74000, 0, 0);
  }

  private static void sameGrantThatIsNotSent() {
    LeaseGates x = roomFor(0);
    String before = Scene.all(x);
    checks.due("the ASK is answered again", x.carry(0), true);
    checks.due("nothing else", Scene.all(x), before);
    LeaseGates y = roomFor(1);
    Scene.ask(y, 1, 0, 3);
    y.carry(299);
    checks.due("one whose GRANT was not sent", y.carry(299), true);
    checks.due("no second LOAN", Scene.root(y, 0), 0, 74000, 26, 2);
  }

  private static void returnThatIsNotSent() {
    LeaseGates x = roomFor(0);
    x.work(0);
    x.work(0);
    x.work(0);
    x.work(0);
    checks.due("a HOLD and no DEMAND", Scene.gate(x, 0, 0), 20, 1, 0, 0, 1, 0, 1);
    x.tick(4491);
    checks.due("none was sent", x.work(0), 0);
    checks.due("the HOLD is gone", Scene.gate(x, 0, 0), 0, 0, 0, 0, 1, 0, 1);
    checks.due("the LOAN stays", Scene.root(x, 0), 0, 80000, 20, 1);
  }

  /** "how many MESSAGES were sent": those beyond 300 were not. */
  private static void workThatIsSentInPart() {
    LeaseGates x = roomFor(2);
    for (int key = 0; key < 4; key++) {
      x.take(1, key, 1 + key);
    }
    checks.due("two of four", x.work(1), 2);
    checks.due("the first", Scene.message(x, 298), 0, 1, 0, 2, 0, 1, -1);
    checks.due("the second", Scene.message(x, 299), 0, 1, 1, 4, 0, 1, -1);
    for (int key = 0; key < 4; key++) {
      checks.due("key " + key, Scene.gate(x, 1, key), 0, 0, 1 + key, 0, 1, 1, 1);
    }
  }

  private static void droppedOnesMakeNoRoom() {
    LeaseGates x = roomFor(0);
    x.drop(299);
    x.drop(0);
    x.take(1, 0, 3);
    checks.due("none was sent", x.work(1), 0);
    checks.due("sent", x.sent(), 300);
    checks.refused(x, "299 stays gone", () -> x.message(299, 0));
    checks.refused(x, "0 stays gone", () -> x.message(0, 0));
  }

  /** "Each stays until it is dropped, and may be carried as often as one likes." */
  private static void carriedAsOftenAsOneLikes() {
    LeaseGates x = Scene.full(100, 0);
    Scene.ask(x, 0, 0, 1);
    x.carry(0);
    checks.due("a GRANT", x.carry(1), true);
    for (int i = 0; i < 100; i++) {
      checks.due("ASK, carried again", x.carry(0), true);
      checks.due("GRANT, carried again", x.carry(1), false);
    }
    x.tick(5000);
    checks.due("the ASK stays", Scene.message(x, 0), 0, 0, 0, 2, 0, 1, -1);
    checks.due("the GRANT stays", Scene.message(x, 1), 1, 0, 0, 2, 0, 1, 0);
    x.restart(0);
    checks.due("over a restart too", Scene.message(x, 1), 1, 0, 0, 2, 0, 1, 0);
  }

  /** "A MESSAGE is gone.", and each call that names it is refused. */
  private static void droppedOnesAreGone() {
    LeaseGates x = roomFor(200);
    Scene.ask(x, 1, 0, 3);
    x.drop(100);
    checks.refused(x, "carry it", () -> x.carry(100));
    checks.refused(x, "drop it", () -> x.drop(100));
    checks.refused(x, "read it", () -> x.message(100, 0));
    checks.due("the one before stays", x.message(99, 0), 1);
    checks.due("sent", x.sent(), 101);
    checks.due("the next has a new number", Scene.ask(x, 2, 0, 1), 101);
  }
}
