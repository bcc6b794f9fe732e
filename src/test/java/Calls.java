/** A call of a chance run, made on the program: a boolean counts 1 or 0, and no answer counts 0. */
final class Calls {
  private Calls() {
  }

  static long on(LeaseGates x, ChanceRun.Call call) {
    int a = call.a();
    int b = call.b();
    int c = call.c();
    switch (call.name()) {
      case "key": x.key(a, b, c); return 0;
      case "length": x.length(a); return 0;
      case "weight": x.weight(a, b, c); return 0;
      case "speed": x.speed(a, b); return 0;
      case "take": return x.take(a, b, c) ? 1 : 0;
      case "work": return x.work(a);
      case "carry": return x.carry(a) ? 1 : 0;
      case "drop": x.drop(a); return 0;
      case "tick": x.tick(a); return 0;
      case "restart": return x.restart(a);
      case "root": return x.root(a, b);
      case "gate": return x.gate(a, b, c);
      case "message": return x.message(a, b);
      case "clock": return x.clock(a);
      default: return x.sent();
    }
  }
}
