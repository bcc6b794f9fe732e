import java.util.ArrayList;
import java.util.List;

/** "IllegalArgument is thrown where a number is none of those told here. What throws changes nothing." */
public final class NumbersTest {
  /** A call with the least and the greatest number that each of its arguments may be. */
  record Form(String name, int... ends) {
    int arguments() {
      return ends.length / 2;
    }

    int least(int place) {
      return place < arguments() ? ends[2 * place] : 0;
    }

    int greatest(int place) {
      return place < arguments() ? ends[2 * place + 1] : 0;
    }

    ChanceRun.Call withLeast() {
      return new ChanceRun.Call(name, least(0), least(1), least(2));
    }

    ChanceRun.Call withGreatest() {
      return new ChanceRun.Call(name, greatest(0), greatest(1), greatest(2));
    }

    /** All is right but the number at one place. */
    ChanceRun.Call with(int place, int number) {
      return new ChanceRun.Call(name, place == 0 ? number : least(0), place == 1 ? number : least(1),
          place == 2 ? number : least(2));
    }
  }

  private static final Checks checks = new Checks("numbers");

  public static void main(String[] args) {
    endsAreAllowed();
    newObjectRefuses();
    usedObjectRefuses();
    fullObjectRefuses();
    refusedCallsLeaveNoTrace();
    checks.end();
  }

  /** Messages 0 .. last can be named. */
  private static List<Form> forms(int last) {
    List<Form> forms = new ArrayList<>(List.of(
        new Form("key", 0, 7, 0, 100000, 0, 1000000), new Form("length", 10, 9000),
        new Form("weight", 0, 5, 0, 7, 1, 100), new Form("speed", -1, 5, 999, 1001),
        new Form("take", 0, 5, 0, 7, 1, 10000), new Form("work", 0, 5), new Form("tick", 1, 5000),
        new Form("restart", 0, 5), new Form("root", 0, 7, 0, 3), new Form("gate", 0, 5, 0, 7, 0, 6),
        new Form("clock", -1, 5)));
    if (last >= 0) {
      forms.add(new Form("carry", 0, last));
      forms.add(new Form("drop", 0, last));
      forms.add(new Form("message", 0, last, 0, 6));
    }
    return forms;
  }

  /** Each form of call with each of its numbers just outside, and far outside. */
  private static List<ChanceRun.Call> wrongCalls(int last) {
    List<ChanceRun.Call> calls = new ArrayList<>();
    for (Form form : forms(last)) {
      for (int place = 0; place < form.arguments(); place++) {
        calls.add(form.with(place, form.least(place) - 1));
        calls.add(form.with(place, form.greatest(place) + 1));
        calls.add(form.with(place, Integer.MIN_VALUE));
        calls.add(form.with(place, Integer.MAX_VALUE));
      }
    }
    return calls;
  }

  private static LeaseGates used() {
    LeaseGates x = Scene.full(100, 50);
    x.speed(LeaseGates.NONE, 999);
    x.weight(0, 0, 7);
    x.length(3000);
    Scene.lend(x, 0, 0, 10);
    Scene.lend(x, 1, 0, 3);
    x.restart(1);
    Scene.ask(x, 1, 0, 9);
    x.tick(333);
    return x;
  }

  private static void endsAreAllowed() {
    for (Form form : forms(used().sent() - 1)) {
      allowed(form.withLeast());
      allowed(form.withGreatest());
      for (int place = 0; place < form.arguments(); place++) {
        allowed(form.with(place, form.greatest(place)));
      }
    }
  }

  private static void allowed(ChanceRun.Call call) {
    try {
      Calls.on(used(), call);
    } catch (RuntimeException e) {
      checks.tell(call + " throws " + e);
    }
  }

  private static void newObjectRefuses() {
    LeaseGates x = new LeaseGates();
    for (ChanceRun.Call call : wrongCalls(-1)) {
      checks.refused(x, call + " of a new object", () -> Calls.on(x, call));
    }
    int[] messages = {-1, 0, 1, 299, 300, Integer.MIN_VALUE, Integer.MAX_VALUE};
    for (int message : messages) {
      checks.refused(x, "carry " + message, () -> x.carry(message));
      checks.refused(x, "drop " + message, () -> x.drop(message));
      checks.refused(x, "message " + message, () -> x.message(message, 0));
    }
  }

  private static void usedObjectRefuses() {
    LeaseGates x = used();
    for (ChanceRun.Call call : wrongCalls(x.sent() - 1)) {
      checks.refused(x, call.toString(), () -> Calls.on(x, call));
    }
  }

  private static void fullObjectRefuses() {
    LeaseGates x = used();
    Scene.sendUseless(x, 300 - x.sent());
    checks.due("sent", x.sent(), 300);
    for (ChanceRun.Call call : wrongCalls(299)) {
      checks.refused(x, call + " behind 300 messages", () -> Calls.on(x, call));
    }
  }

  /** Not all that an object knows can be read at once: so one that refused much is compared as it goes on. */
  private static void refusedCallsLeaveNoTrace() {
    LeaseGates calm = used();
    LeaseGates tried = used();
    goOn(calm, false);
    goOn(tried, true);
    checks.due("one that refused much", Scene.all(tried), Scene.all(calm));
  }

  private static void goOn(LeaseGates x, boolean trying) {
    for (int round = 0; round < 8; round++) {
      tryWrong(x, trying);
      for (int gate = 0; gate < 6; gate++) {
        x.take(gate, 0, 5 + round);
        tryWrong(x, trying);
        x.work(gate);
      }
      for (int message = Math.max(0, x.sent() - 8); message < x.sent(); message++) {
        x.carry(message);
        tryWrong(x, trying);
      }
      x.tick(271);
    }
  }

  private static void tryWrong(LeaseGates x, boolean trying) {
    if (!trying) {
      return;
    }
    for (ChanceRun.Call call : wrongCalls(x.sent() - 1)) {
      try {
        Calls.on(x, call);
        checks.tell(call + " throws nothing");
      } catch (IllegalArgumentException e) {
        continue;
      }
    }
  }
}
