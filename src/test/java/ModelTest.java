/** Chance runs of 512 calls, each answer compared with the model's, and now and then all that can be read. */
public final class ModelTest {
  private static final long THROWN = Long.MIN_VALUE;
  private static final Checks checks = new Checks("model");

  public static void main(String[] args) {
    int runs = args.length > 0 ? Integer.parseInt(args[0]) : 200;
    for (int seed = 0; seed < runs; seed++) {
      run(seed);
    }
    checks.end();
  }

  private static void run(long seed) {
    LeaseGates x = new LeaseGates();
    SlowModel model = new SlowModel();
    ChanceRun chance = new ChanceRun(seed, false);
    for (int i = 0; i < 512; i++) {
      ChanceRun.Call call = i < 8 ? chance.firstKey(i) : chance.next(model.sent());
      long want = onModel(model, call);
      long got = onProgram(x, call);
      if (got != want) {
        checks.tell("seed " + seed + ", call " + i + " " + call + " answered " + got + ", due is " + want);
        return;
      }
      if (i % 16 == 0 && !alike(x, model)) {
        checks.tell("seed " + seed + ", after call " + i + " " + call + " the state is another");
        return;
      }
    }
  }

  private static boolean alike(LeaseGates x, SlowModel model) {
    for (int key = 0; key < 8; key++) {
      for (int what = 0; what < 4; what++) {
        if (x.root(key, what) != model.root(key, what)) {
          return false;
        }
      }
      for (int gate = 0; gate < 6; gate++) {
        for (int what = 0; what < 7; what++) {
          if (x.gate(gate, key, what) != model.gate(gate, key, what)) {
            return false;
          }
        }
      }
    }
    for (int message = 0; message < model.sent(); message++) {
      for (int what = 0; what < 7; what++) {
        ChanceRun.Call call = new ChanceRun.Call("message", message, what, 0);
        if (onProgram(x, call) != onModel(model, call)) {
          return false;
        }
      }
    }
    return true;
  }

  private static long onProgram(LeaseGates x, ChanceRun.Call call) {
    try {
      return Calls.on(x, call);
    } catch (IllegalArgumentException e) {
      return THROWN;
    }
  }

  private static long onModel(SlowModel m, ChanceRun.Call call) {
    int a = call.a();
    int b = call.b();
    int c = call.c();
    try {
      switch (call.name()) {
        case "key": m.key(a, b, c); return 0;
        case "length": m.length(a); return 0;
        case "weight": m.weight(a, b, c); return 0;
        case "speed": m.speed(a, b); return 0;
        case "take": return m.take(a, b, c) ? 1 : 0;
        case "work": return m.work(a);
        case "carry": return m.carry(a) ? 1 : 0;
        case "drop": m.drop(a); return 0;
        case "tick": m.tick(a); return 0;
        case "restart": return m.restart(a);
        case "root": return m.root(a, b);
        case "gate": return m.gate(a, b, c);
        case "message": return m.message(a, b);
        case "clock": return m.clock(a);
        default: return m.sent();
      }
    } catch (IllegalArgumentException e) {
      return THROWN;
    }
  }
}
