import java.util.ArrayList;
import java.util.Comparator;
import java.util.HashMap;
import java.util.List;
import java.util.Map;

/** The document told once more, as plainly and slowly as can be: every millisecond of the root by itself. */
final class SlowModel {
  record Note(int kind, int gate, int key, int tokens, int birth, int count, int number, int length) {
  }

  record Place(int gate, int key) {
  }

  static final class Lent {
    int number;
    int key;
    int tokens;
    long end;
  }

  static final class Held {
    int number;
    Place place;
    int tokens;
    long asked;
    int length;

    long time() {
      return Math.floorDiv(998L * length, 1000L);
    }
  }

  final long[] goneBy = new long[7];
  final int[] speeds = {1000, 1000, 1000, 1000, 1000, 1000, 1000};
  final int[] rates = new int[8];
  final int[] bursts = new int[8];
  final long[] levels = new long[8];
  final int[] granted = new int[8];
  final List<Lent> loans = new ArrayList<>();
  int loanNumbers = 0;
  int length = 2000;
  final int[] knownBirths = new int[6];
  final Map<Place, Note> answers = new HashMap<>();
  final Map<Place, Long> askTimes = new HashMap<>();
  final Map<Place, Integer> weights = new HashMap<>();
  final List<Note> notes = new ArrayList<>();
  final int[] births = new int[6];
  final List<Held> holds = new ArrayList<>();
  final int[][] demand = new int[6][8];
  final int[][] use = new int[6][8];
  final int[][] count = new int[6][8];
  final int[][] refused = new int[6][8];
  final long[][] openSince = new long[6][8];

  SlowModel() {
    for (long[] row : openSince) {
      java.util.Arrays.fill(row, -1);
    }
  }

  private static void need(boolean right) {
    if (!right) {
      throw new IllegalArgumentException();
    }
  }

  private static void needPlace(int gate, int key) {
    need(gate >= 0 && gate <= 5 && key >= 0 && key <= 7);
  }

  private Note note(int message) {
    need(message >= 0 && message < notes.size() && notes.get(message) != null);
    return notes.get(message);
  }

  int clock(int gate) {
    need(gate >= -1 && gate <= 5);
    return (int) (goneBy[gate + 1] / 1000);
  }

  int lent(int key) {
    return loans.stream().filter(l -> l.key == key).mapToInt(l -> l.tokens).sum();
  }

  private void keepInBounds(int key) {
    levels[key] = Math.max(0, Math.min(levels[key], 1000L * (bursts[key] - lent(key))));
  }

  void key(int key, int rate, int burst) {
    need(key >= 0 && key <= 7 && rate >= 0 && rate <= 100_000 && burst >= 0 && burst <= 1_000_000);
    rates[key] = rate;
    bursts[key] = burst;
    keepInBounds(key);
  }

  void length(int milliseconds) {
    need(milliseconds >= 10 && milliseconds <= 9000);
    length = milliseconds;
  }

  void weight(int gate, int key, int weight) {
    needPlace(gate, key);
    need(weight >= 1 && weight <= 100);
    weights.put(new Place(gate, key), weight);
  }

  void speed(int gate, int speed) {
    need(gate >= -1 && gate <= 5 && speed >= 999 && speed <= 1001);
    speeds[gate + 1] = speed;
  }

  void tick(int milliseconds) {
    need(milliseconds >= 1 && milliseconds <= 5000);
    int from = clock(-1);
    for (int i = 0; i < 7; i++) {
      goneBy[i] += (long) milliseconds * speeds[i];
    }
    for (int now = from + 1; now <= clock(-1); now++) {
      long end = now;
      loans.removeIf(l -> l.end == end);
      for (int key = 0; key < 8; key++) {
        if (rates[key] > 0) {
          levels[key] += rates[key];
          keepInBounds(key);
        }
      }
    }
  }

  private boolean live(Held h) {
    return clock(h.place.gate()) - h.asked < h.time();
  }

  private List<Held> liveHolds(int gate, int key) {
    Place place = new Place(gate, key);
    return new ArrayList<>(holds.stream().filter(h -> h.place.equals(place) && live(h)).toList());
  }

  private int liveTokens(int gate, int key) {
    return liveHolds(gate, key).stream().mapToInt(h -> h.tokens).sum();
  }

  boolean take(int gate, int key, int n) {
    needPlace(gate, key);
    need(n >= 1 && n <= 10_000);
    use[gate][key] += n;
    if (liveTokens(gate, key) < n) {
      refused[gate][key]++;
      return false;
    }
    refused[gate][key] = 0;
    granted[key] += n;
    List<Held> order = liveHolds(gate, key);
    order.sort(Comparator.<Held>comparingLong(h -> h.asked + h.time()).thenComparingInt(h -> h.number));
    for (int i = 0; i < n; i++) {
      Held first = order.get(0);
      first.tokens--;
      if (first.tokens == 0) {
        order.remove(0);
        holds.remove(first);
      }
    }
    return true;
  }

  private void send(Note note) {
    if (notes.size() < 300) {
      notes.add(note);
    }
  }

  int work(int gate) {
    needPlace(gate, 0);
    int before = notes.size();
    long now = clock(gate);
    for (int k = 0; k < 8; k++) {
      Place place = new Place(gate, k);
      holds.removeIf(h -> h.place.equals(place) && !live(h));
      List<Held> old = liveHolds(gate, k);
      old.removeIf(h -> (now - h.asked) * 2 < h.time());
      old.sort(Comparator.comparingInt(h -> h.number));
      for (Held h : old) {
        holds.remove(h);
        send(new Note(2, gate, k, h.tokens, births[gate], -1, h.number, 0));
      }
      demand[gate][k] = use[gate][k] + demand[gate][k] / 2;
      use[gate][k] = 0;
      int difference = 2 * demand[gate][k] - liveTokens(gate, k);
      long since = openSince[gate][k];
      if (difference > 0 && (since < 0 || now - since >= 500)) {
        count[gate][k]++;
        openSince[gate][k] = now;
        send(new Note(0, gate, k, difference, births[gate], count[gate][k], -1, 0));
      }
    }
    return notes.size() - before;
  }

  boolean carry(int message) {
    Note note = note(message);
    return switch (note.kind()) {
      case 0 -> ask(note);
      case 1 -> grant(note);
      default -> giveBack(note);
    };
  }

  private boolean ask(Note ask) {
    Place place = new Place(ask.gate(), ask.key());
    if (ask.birth() < knownBirths[ask.gate()]) {
      return false;
    }
    if (ask.birth() > knownBirths[ask.gate()]) {
      knownBirths[ask.gate()] = ask.birth();
      answers.keySet().removeIf(p -> p.gate() == ask.gate());
    }
    Note last = answers.get(place);
    if (last != null && ask.count() < last.count()) {
      return false;
    }
    if (last != null && ask.count() == last.count()) {
      send(last);
      return true;
    }
    askTimes.put(place, (long) clock(-1));
    int tokens = tokensFor(ask);
    levels[ask.key()] -= 1000L * tokens;
    int number = -1;
    if (tokens > 0) {
      Lent loan = new Lent();
      number = loanNumbers++;
      loan.number = number;
      loan.key = ask.key();
      loan.tokens = tokens;
      loan.end = clock(-1) + length;
      loans.add(loan);
    }
    Note answer = new Note(1, ask.gate(), ask.key(), tokens, ask.birth(), ask.count(), number, length);
    answers.put(place, answer);
    send(answer);
    return true;
  }

  private int tokensFor(Note ask) {
    long free = levels[ask.key()] / 1000;
    if (free >= ask.tokens()) {
      return ask.tokens();
    }
    long sum = 0;
    for (int gate = 0; gate < 6; gate++) {
      Long time = askTimes.get(new Place(gate, ask.key()));
      if (time != null && clock(-1) - time < 1000) {
        sum += weights.getOrDefault(new Place(gate, ask.key()), 1);
      }
    }
    long part = free * weights.getOrDefault(new Place(ask.gate(), ask.key()), 1) / sum;
    return (int) Math.min(part, ask.tokens());
  }

  private boolean grant(Note grant) {
    int gate = grant.gate();
    int key = grant.key();
    if (grant.birth() != births[gate] || openSince[gate][key] < 0 || grant.count() != count[gate][key]) {
      return false;
    }
    if (grant.tokens() > 0) {
      Held held = new Held();
      held.number = grant.number();
      held.place = new Place(gate, key);
      held.tokens = grant.tokens();
      held.asked = openSince[gate][key];
      held.length = grant.length();
      holds.add(held);
    }
    openSince[gate][key] = -1;
    return true;
  }

  private boolean giveBack(Note note) {
    if (note.birth() < knownBirths[note.gate()] || !loans.removeIf(l -> l.number == note.number())) {
      return false;
    }
    levels[note.key()] += 1000L * note.tokens();
    keepInBounds(note.key());
    return true;
  }

  void drop(int message) {
    note(message);
    notes.set(message, null);
  }

  int restart(int gate) {
    needPlace(gate, 0);
    holds.removeIf(h -> h.place.gate() == gate);
    demand[gate] = new int[8];
    use[gate] = new int[8];
    count[gate] = new int[8];
    refused[gate] = new int[8];
    java.util.Arrays.fill(openSince[gate], -1);
    return ++births[gate];
  }

  int root(int key, int what) {
    needPlace(0, key);
    need(what >= 0 && what <= 3);
    return switch (what) {
      case 0 -> granted[key];
      case 1 -> (int) levels[key];
      case 2 -> lent(key);
      default -> (int) loans.stream().filter(l -> l.key == key).count();
    };
  }

  int gate(int gate, int key, int what) {
    needPlace(gate, key);
    need(what >= 0 && what <= 6);
    return switch (what) {
      case 0 -> liveTokens(gate, key);
      case 1 -> (int) holds.stream().filter(h -> h.place.equals(new Place(gate, key))).count();
      case 2 -> demand[gate][key];
      case 3 -> use[gate][key];
      case 4 -> count[gate][key];
      case 5 -> openSince[gate][key] < 0 ? 0 : 1;
      default -> refused[gate][key];
    };
  }

  int message(int message, int what) {
    Note note = note(message);
    need(what >= 0 && what <= 6);
    int[] all = {note.kind(), note.gate(), note.key(), note.tokens(), note.birth(), note.count(), note.number()};
    return all[what];
  }

  int sent() {
    return notes.size();
  }
}
