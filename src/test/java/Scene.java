/** Runs of calls that many tests need, and readings of more than one number at once. */
final class Scene {
  private Scene() {
  }

  /** An object whose key 0 is full: so many tokens, and so many more with each second. */
  static LeaseGates full(int tokens, int rate) {
    LeaseGates x = new LeaseGates();
    fill(x, 0, tokens, rate);
    return x;
  }

  /** Fills a key at once, for one millisecond, and leaves it with the rate. Tokens: at most 100. */
  static void fill(LeaseGates x, int key, int tokens, int rate) {
    x.key(key, 100000, tokens);
    x.tick(1);
    x.key(key, rate, tokens);
  }

  /** True time goes on by more than one tick may. */
  static void pass(LeaseGates x, int milliseconds) {
    int left = milliseconds;
    while (left > 0) {
      x.tick(Math.min(left, 5000));
      left -= 5000;
    }
  }

  /** Sends so many messages of no use, each a GRANT of nothing that gate 5 asked for of key 7. Calls: as many, and 2. */
  static void sendUseless(LeaseGates x, int messages) {
    int ask = ask(x, 5, 7, 1);
    for (int i = 1; i < messages; i++) {
      x.carry(ask);
    }
  }

  /** A gate wants n tokens and works: answers the number of its ask, which is for 2 n if nothing else was wanted. */
  static int ask(LeaseGates x, int gate, int key, int n) {
    x.take(gate, key, n);
    x.work(gate);
    return x.sent() - 1;
  }

  /** The ask is carried to the root: answers the number of the grant. */
  static int answer(LeaseGates x, int ask) {
    x.carry(ask);
    return x.sent() - 1;
  }

  /** Ask and grant are both carried: answers the number of the grant. */
  static int lend(LeaseGates x, int gate, int key, int n) {
    int grant = answer(x, ask(x, gate, key, n));
    x.carry(grant);
    return grant;
  }

  static int[] root(LeaseGates x, int key) {
    int[] all = new int[4];
    for (int what = 0; what < 4; what++) {
      all[what] = x.root(key, what);
    }
    return all;
  }

  static int[] gate(LeaseGates x, int gate, int key) {
    int[] all = new int[7];
    for (int what = 0; what < 7; what++) {
      all[what] = x.gate(gate, key, what);
    }
    return all;
  }

  static int[] message(LeaseGates x, int message) {
    int[] all = new int[7];
    for (int what = 0; what < 7; what++) {
      all[what] = x.message(message, what);
    }
    return all;
  }

  /** All that can be read of an object. It takes some 400 calls, but no reading uses an object up: it has no count of them. */
  static String all(LeaseGates x) {
    StringBuilder text = new StringBuilder();
    text.append("sent ").append(x.sent());
    for (int gate = LeaseGates.NONE; gate < 6; gate++) {
      text.append(" clock ").append(x.clock(gate));
    }
    for (int key = 0; key < 8; key++) {
      text.append("\nkey ").append(key).append(java.util.Arrays.toString(root(x, key)));
      for (int gate = 0; gate < 6; gate++) {
        text.append(java.util.Arrays.toString(gate(x, gate, key)));
      }
    }
    for (int message = 0; message < x.sent(); message++) {
      text.append("\nmessage ").append(message).append(messageOrGone(x, message));
    }
    return text.toString();
  }

  private static String messageOrGone(LeaseGates x, int message) {
    try {
      return java.util.Arrays.toString(message(x, message));
    } catch (IllegalArgumentException e) {
      return "gone";
    }
  }
}
