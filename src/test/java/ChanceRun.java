import java.util.Random;

/** A run of calls that a seed chooses, so that it is the same each time. */
final class ChanceRun {
  /** A call by its number: name, and up to three arguments. */
  record Call(String name, int a, int b, int c) {
    @Override
    public String toString() {
      return name + "(" + a + ", " + b + ", " + c + ")";
    }
  }

  private final Random random;
  private final int gates;
  private final int keys;
  private final int loss;
  private final int wrong;
  private final int longest;
  private final boolean steadyKeys;

  ChanceRun(long seed, boolean steadyKeys) {
    random = new Random(seed);
    gates = 1 + random.nextInt(6);
    keys = 1 + random.nextInt(random.nextInt(4) == 0 ? 8 : 2);
    loss = random.nextInt(10);
    wrong = random.nextInt(3) == 0 ? 10 : 0;
    longest = new int[] {5, 100, 700, 5000}[random.nextInt(4)];
    this.steadyKeys = steadyKeys;
  }

  Call next(int sent) {
    int gate = number(0, gates - 1);
    int key = number(0, keys - 1);
    int choice = random.nextInt(100);
    if (choice < 25) {
      return new Call("take", gate, key, amount());
    } else if (choice < 45) {
      return new Call("work", gate, 0, 0);
    } else if (choice < 75) {
      return new Call("carry", message(sent), 0, 0);
    } else if (choice < 87) {
      return new Call("tick", number(1, longest), 0, 0);
    } else if (choice < 88) {
      return new Call("restart", gate, 0, 0);
    } else if (choice < 89 + loss / 3) {
      return new Call("drop", message(sent), 0, 0);
    } else if (choice < 94) {
      return setting(gate, key);
    }
    return reading(gate, key, sent);
  }

  private Call setting(int gate, int key) {
    switch (random.nextInt(steadyKeys ? 3 : 5)) {
      case 0:
        return new Call("length", random.nextBoolean() ? number(10, 9000) : number(10, 2 * longest + 10), 0, 0);
      case 1:
        return new Call("weight", gate, key, number(1, 100));
      case 2:
        return new Call("speed", number(-1, gates - 1), number(999, 1001), 0);
      default:
        return firstKey(key);
    }
  }

  Call firstKey(int key) {
    int rate = random.nextBoolean() ? number(0, 1000) : number(0, 100000);
    int burst = random.nextBoolean() ? number(0, 100) : number(0, 1000000);
    return new Call("key", key, rate, burst);
  }

  private Call reading(int gate, int key, int sent) {
    switch (random.nextInt(5)) {
      case 0:
        return new Call("root", key, number(0, 3), 0);
      case 1:
        return new Call("gate", gate, key, number(0, 6));
      case 2:
        return new Call("message", message(sent), number(0, 6), 0);
      case 3:
        return new Call("clock", number(-1, 5), 0, 0);
      default:
        return new Call("sent", 0, 0, 0);
    }
  }

  private int amount() {
    return random.nextInt(5) == 0 ? number(1, 10000) : number(1, 30);
  }

  /** Mostly one of the newest messages, as those are still something. */
  private int message(int sent) {
    int newest = Math.max(0, sent - 1);
    return random.nextInt(4) == 0 ? number(0, newest) : Math.max(0, newest - random.nextInt(4));
  }

  private int number(int least, int most) {
    if (wrong > 0 && random.nextInt(100) < wrong) {
      return random.nextBoolean() ? least - 1 : most + 1;
    }
    return least + random.nextInt(most - least + 1);
  }
}
