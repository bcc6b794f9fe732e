/** Whatever is lost, late, doubled or forgotten: what is spent was once in the bucket, and it never overflows. */
public final class NeverTooMuchTest {
  private static final Checks checks = new Checks("never too much");
  private static int spentInAll = 0;

  public static void main(String[] args) {
    for (int seed = 0; seed < 300; seed++) {
      run(seed);
    }
    if (spentInAll == 0) {
      checks.tell("nothing was ever spent, so nothing was tried");
    }
    checks.end();
  }

  private static void run(long seed) {
    LeaseGates x = new LeaseGates();
    ChanceRun chance = new ChanceRun(seed, true);
    int[] rates = new int[8];
    int[] bursts = new int[8];
    for (int key = 0; key < 8; key++) {
      rates[key] = 10 + 997 * key * (int) (1 + seed % 7);
      bursts[key] = 30 + (int) (seed % 50) * key;
      x.key(key, rates[key], bursts[key]);
    }
    for (int i = 8; i < 512; i++) {
      ChanceRun.Call call = chance.next(x.sent());
      try {
        Calls.on(x, call);
      } catch (IllegalArgumentException e) {
        continue;
      }
      for (int key = 0; key < 8; key++) {
        look(x, key, rates[key], bursts[key], "seed " + seed + ", call " + i + " " + call);
      }
    }
    for (int key = 0; key < 8; key++) {
      spentInAll += x.root(key, 0);
    }
  }

  private static void look(LeaseGates x, int key, int rate, int burst, String where) {
    int live = 0;
    for (int gate = 0; gate < 6; gate++) {
      live += x.gate(gate, key, 0);
    }
    long cameIn = (long) rate * x.clock(LeaseGates.NONE);
    long known = 1000L * (x.root(key, 0) + live) + x.root(key, 1);
    if (known > cameIn) {
      checks.tell(where + ": spent, live and left are " + known + ", but only " + cameIn + " ever came in");
    }
    if (live > x.root(key, 2)) {
      checks.tell(where + ": " + live + " are live, but only " + x.root(key, 2) + " are lent");
    }
    if (x.root(key, 1) < 0 || x.root(key, 1) > 1000L * (burst - x.root(key, 2))) {
      checks.tell(where + ": LEVEL is " + x.root(key, 1));
    }
  }
}
