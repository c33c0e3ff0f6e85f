import java.util.ArrayList;
import java.util.List;
import java.util.function.IntPredicate;
import java.util.regex.Matcher;
import java.util.regex.Pattern;

/** The document over again in other words, with no thought for speed or room: what the class is held against. */
final class PlainModel {
  private static final int[] ABOVE = {-1, 0, 0, 0, 1, 3};
  private static final List<String> NAMES = List.of("walker", "pedlar", "lover", "lame", "cheat", "pilgrim");
  private static final Pattern TOKEN = Pattern.compile("[a-z]+|[0-9]+|;");

  /** What an image keeps; the traits of each walker stand as of() numbers them. */
  static final class World {
    int hour = 0;
    int fund = 1000;
    int penny = 1;
    int rain = 0;
    List<int[]> walkers = new ArrayList<>();

    World twin() {
      World w = new World();
      w.hour = hour;
      w.fund = fund;
      w.penny = penny;
      w.rain = rain;
      for (int[] one : walkers) {
        w.walkers.add(one.clone());
      }
      return w;
    }

    World on(int n) {
      World w = twin();
      for (int i = 0; i < n; i++) {
        w.anHour();
      }
      return w;
    }

    int pace(int i, int kind) {
      int[] one = walkers.get(i);
      switch (kind) {
        case 0: return one[4] > 9 ? 2 : 3;
        case 2: return pace(i, 0) + (withAnother(i) ? 1 : 0);
        case 3: return pace(i, 0) / 2;
        case 4: return pace(i, 1) + (one[3] == 0 ? 1 : 0);
        case 5: return pace(i, 3) + rain;
        default: return pace(i, ABOVE[kind]);
      }
    }

    boolean withAnother(int i) {
      for (int j = 0; j < walkers.size(); j++) {
        if (j != i && walkers.get(j)[1] == walkers.get(i)[1]) {
          return true;
        }
      }
      return false;
    }

    int pay(int w, int kind) {
      switch (kind) {
        case 0: return w * penny + (rain == 1 ? w : 0);
        case 1: return pay(w, 0) + 2;
        case 2: return 2 * pay(w, 0);
        case 3: return pay(w, 0) + w / 2;
        case 5: return 0;
        default: return pay(w, ABOVE[kind]);
      }
    }

    int wears(int kind) {
      switch (kind) {
        case 0: return 1;
        case 1: return hour % 5 == 0 ? 0 : wears(0);
        case 3: return 0;
        case 4: return 2 * wears(1) + 1;
        default: return wears(ABOVE[kind]);
      }
    }

    void anHour() {
      for (int i = 0; i < walkers.size(); i++) {
        int[] one = walkers.get(i);
        if (one[7] == 1) {
          continue;
        }
        int goal = one[2] == 1 ? 12 : 0;
        for (int steps = pace(i, one[0]); steps > 0 && one[1] != goal; steps--) {
          one[1] += one[2] == 1 ? 1 : -1;
          if (one[5] < 12) {
            one[5]++;
          }
        }
        one[4] = one[1] == 6 ? 0 : one[4] == 99 ? 99 : one[4] + 1;
        if (one[1] == goal) {
          if (one[3] > 0) {
            int paid = Math.min(fund, pay(one[5], one[0]));
            fund -= paid;
            one[6] = Math.min(999999, one[6] + paid);
            one[3] = Math.max(0, one[3] - wears(one[0]));
          }
          one[5] = 0;
          one[2] = 1 - one[2];
        }
      }
      hour++;
    }
  }

  World world = new World();
  World image = null;
  String tape = "";
  long[][] sheets = new long[4][];
  int[] bits = new int[4];
  int[] found = new int[7];

  private int finding(int which) {
    found[which]++;
    return -1000000001 - which;
  }

  private static boolean in(int v, int a, int b) {
    return a <= v && v <= b;
  }

  private boolean one(int walker) {
    return in(walker, 0, world.walkers.size() - 1);
  }

  private int first(int from, int to, IntPredicate p) {
    for (int v = from; v <= to; v++) {
      if (p.test(v)) {
        return v;
      }
    }
    return finding(3);
  }

  private int purse(World w, int walker, int n) {
    return w.on(n).walkers.get(walker)[6];
  }

  /** What the class answers to the call of that name; the arguments stand as in the document. */
  long ask(String call, long[] args) {
    int a = args.length > 0 ? (int) args[0] : 0;
    int b = args.length > 1 ? (int) args[1] : 0;
    int c = args.length > 2 ? (int) args[2] : 0;
    switch (call) {
      case "road": return road(a, b);
      case "at": return in(a, 0, 12) ? setOf(1, a) : finding(0);
      case "walker": return walker(a, b);
      case "of": return of(a, b);
      case "set": return set(a, b, c);
      case "turn": return turn(a, b);
      case "as": return as(a, b);
      case "hours": return hours(a);
      case "now": return now(a);
      case "on": return one(a) && in(b, 0, 200) && in(c, 0, 2)
          ? world.on(b).walkers.get(a)[new int[] {1, 6, 3}[c]] : finding(0);
      case "fund": return in(a, 0, 200) ? world.on(a).fund : finding(0);
      case "empty": return first(0, 200, n -> world.on(n).fund == 0);
      case "comes": return one(a) && in(b, 0, 12)
          ? first(0, 200, n -> world.on(n).walkers.get(a)[1] == b) : finding(0);
      case "meet": return one(a) && one(b) && a != b
          ? first(0, 200, n -> world.on(n).walkers.get(a)[1] == world.on(n).walkers.get(b)[1]) : finding(0);
      case "worn": return one(a) ? first(0, 200, n -> world.on(n).walkers.get(a)[3] == 0) : finding(0);
      case "feed": return feed(a, b);
      case "wipe": return wipe();
      case "text": return text();
      case "sheet": return sheet(a, b, c);
      case "write": return write(a, b, args[2]);
      case "copy": return copy(a, b, c, (int) args[3], (int) args[4]);
      case "lays": return lays(a);
      case "book": return book(a, b);
      case "read": return read(a, b);
      case "image": image = world.twin(); return 1;
      case "undo": return undo();
      case "tear": return tear();
      case "count": return count(a);
      case "status": return status(a);
      default: return askBest(call, a, b, c);
    }
  }

  private int askBest(String call, int a, int b, int c) {
    switch (call) {
      case "stop": return in(a, 1, 60) ? stop(a) : finding(0);
      case "penny": return in(a, 1, 100) && in(b, 0, 999999) ? penny(a, b) : finding(0);
      case "reason": return one(a) && in(b, 1, 100) && in(c, 0, 999999) ? first(0, 9, r -> {
          World w = world.twin();
          w.walkers.get(a)[3] = r;
          return purse(w, a, b) >= c;
        }) : finding(0);
      case "kind": return one(a) && in(b, 1, 100) ? best(a, b, 5, false) : finding(0);
      case "begin": return one(a) && in(b, 1, 100) ? best(a, b, 12, true) : finding(0);
      case "richest": return richest(a);
      case "rival": return one(a) && one(b) && a != b && in(c, 1, 100) ? rival(a, b, c) : finding(0);
      case "enough": return in(a, 1, 60) ? first(0, 999, f -> {
          World w = world.twin();
          w.fund = f;
          return w.on(a).fund > 0;
        }) : finding(0);
      default: throw new IllegalArgumentException(call);
    }
  }

  private int setOf(int trait, int v) {
    int set = 0;
    for (int i = 0; i < world.walkers.size(); i++) {
      set += world.walkers.get(i)[trait] == v ? 1 << i : 0;
    }
    return set;
  }

  private int sumOf(int trait) {
    return world.walkers.stream().mapToInt(one -> one[trait]).sum();
  }

  private int road(int what, int v) {
    if (!in(what, 0, 2) || !in(v, 0, new int[] {999999, 20, 1}[what])) {
      return finding(0);
    }
    int was = now(what + 1);
    world.fund = what == 0 ? v : world.fund;
    world.penny = what == 1 ? v : world.penny;
    world.rain = what == 2 ? v : world.rain;
    return was;
  }

  private int walker(int kind, int mile) {
    if (!in(kind, 0, 5) || !in(mile, 0, 12)) {
      return finding(0);
    }
    if (world.walkers.size() == 8) {
      return finding(1);
    }
    world.walkers.add(new int[] {kind, mile, 1, 5, 0, 0, 0, 0});
    return world.walkers.size() - 1;
  }

  private int of(int walker, int what) {
    if (!one(walker) || !in(what, 0, 9)) {
      return finding(0);
    }
    int[] one = world.walkers.get(walker);
    return what == 8 ? world.pace(walker, one[0]) : what == 9 ? world.pay(one[5], one[0]) : one[what];
  }

  private int set(int walker, int what, int v) {
    if (!one(walker) || !in(what, 1, 7) || !in(v, 0, new int[] {0, 12, 1, 9, 99, 12, 999999, 1}[what])) {
      return finding(0);
    }
    int was = world.walkers.get(walker)[what];
    world.walkers.get(walker)[what] = v;
    return was;
  }

  private int turn(int walker, int kind) {
    if (!one(walker) || !in(kind, 0, 5)) {
      return finding(0);
    }
    int was = world.walkers.get(walker)[0];
    world.walkers.get(walker)[0] = kind;
    return was;
  }

  private int as(int walker, int kind) {
    if (!one(walker) || !in(kind, 0, 5)) {
      return finding(0);
    }
    for (int k = world.walkers.get(walker)[0]; k >= 0; k = ABOVE[k]) {
      if (k == kind) {
        return world.walkers.get(walker)[3];
      }
    }
    return finding(2);
  }

  private int hours(int n) {
    if (!in(n, 1, 200)) {
      return finding(0);
    }
    if (world.hour + n > 99999) {
      return finding(4);
    }
    world = world.on(n);
    return world.fund;
  }

  private int now(int what) {
    int all = (1 << world.walkers.size()) - 1;
    switch (what) {
      case 0: return world.hour;
      case 1: return world.fund;
      case 2: return world.penny;
      case 3: return world.rain;
      case 4: return sumOf(6);
      case 5: return all - setOf(3, 0);
      case 6: return setOf(7, 1);
      case 7: return sumOf(5);
      default: return finding(0);
    }
  }

  private int stop(int n) {
    int best = -1;
    for (int set = 0; set < 1 << world.walkers.size(); set++) {
      if ((set & setOf(7, 1)) != 0 || best >= 0 && Integer.bitCount(set) >= Integer.bitCount(best)) {
        continue;
      }
      World w = world.twin();
      for (int i = 0; i < w.walkers.size(); i++) {
        w.walkers.get(i)[7] |= set >> i & 1;
      }
      best = w.on(n).fund > 0 ? set : best;
    }
    return best < 0 ? finding(3) : best;
  }

  private int penny(int n, int v) {
    int best = -1;
    for (int p = 0; p <= 20; p++) {
      World w = world.twin();
      w.penny = p;
      best = w.on(n).fund >= v ? p : best;
    }
    return best < 0 ? finding(3) : best;
  }

  private int best(int walker, int n, int most, boolean byMile) {
    int[] purses = new int[most + 1];
    int best = 0;
    for (int v = 0; v <= most; v++) {
      World w = world.twin();
      w.walkers.get(walker)[byMile ? 1 : 0] = v;
      if (byMile) {
        w.walkers.get(walker)[5] = 0;
      }
      purses[v] = purse(w, walker, n);
      best = purses[v] > purses[best] ? v : best;
    }
    return best;
  }

  private int richest(int n) {
    if (!in(n, 0, 200)) {
      return finding(0);
    }
    World w = world.on(n);
    int most = w.walkers.stream().mapToInt(one -> one[6]).max().orElse(-1);
    return first(0, w.walkers.size() - 1, i -> w.walkers.get(i)[6] == most);
  }

  private int rival(int walker, int other, int n) {
    World w = world.twin();
    w.walkers.get(other)[7] = 1;
    return purse(w, walker, n) - purse(world, walker, n);
  }

  private int feed(int bytes, int n) {
    if (!in(n, 1, 4)) {
      return finding(0);
    }
    if (tape.length() + n > 120) {
      return finding(1);
    }
    for (int i = 4 - n; i < 4; i++) {
      tape += (char) (bytes >>> 24 - 8 * i & 255);
    }
    return tape.length();
  }

  private int wipe() {
    int had = tape.length();
    tape = "";
    return had;
  }

  private int text() {
    World w = world.twin();
    int told = told(w);
    world = told < 0 ? world : w;
    tape = "";
    return told;
  }

  /** A state for each place in the grammar: what may stand there, and where it leads. */
  private int told(World w) {
    String state = "item";
    int items = 0;
    int place = 0;
    Matcher token = TOKEN.matcher(tape);
    while (true) {
      while (place < tape.length() && tape.charAt(place) == ' ') {
        place++;
      }
      if (place == tape.length()) {
        return List.of("item", "at#", "reason#", "fund#", "penny#").contains(state) ? -1 - place : items;
      }
      if (!token.find(place) || token.start() != place) {
        return -1 - place;
      }
      state = next(w, state, token.group());
      if (state == null) {
        return -1 - place;
      }
      items += List.of("named", "fund#", "penny#", "said").contains(state) ? 1 : 0;
      state = state.equals("said") ? "end" : state;
      place = token.end();
    }
  }

  private String next(World w, String state, String t) {
    int[] last = w.walkers.isEmpty() ? new int[8] : w.walkers.get(w.walkers.size() - 1);
    boolean number = Character.isDigit(t.charAt(0));
    String digits = t.replaceFirst("^0+(?=.)", "");
    int v = !number ? -1 : digits.length() > 4 ? 10000 : Integer.parseInt(digits);
    switch (state) {
      case "item": return item(w, t);
      case "at#": last[1] = v; return in(v, 0, 12) ? "placed" : null;
      case "reason#": last[3] = v; return in(v, 0, 9) ? "end" : null;
      case "fund#": w.fund = v; return in(v, 0, 9999) ? "end" : null;
      case "penny#": w.penny = v; return in(v, 0, 20) ? "end" : null;
      default: break;
    }
    boolean named = state.equals("named");
    boolean placed = named || state.equals("placed");
    boolean directed = placed || state.equals("directed");
    switch (t) {
      case ";": return "item";
      case "at": return named ? "at#" : null;
      case "down":
        last[2] = placed ? 0 : last[2];
        return placed ? "directed" : null;
      case "reason": return directed ? "reason#" : null;
      default: return null;
    }
  }

  private String item(World w, String t) {
    if (NAMES.contains(t)) {
      w.walkers.add(new int[] {NAMES.indexOf(t), 0, 1, 5, 0, 0, 0, 0});
      return w.walkers.size() > 8 ? null : "named";
    }
    switch (t) {
      case "fund": return "fund#";
      case "penny": return "penny#";
      case "rain": w.rain = 1; return "said";
      case "dry": w.rain = 0; return "said";
      default: return null;
    }
  }

  private int sheet(int s, int b, int n) {
    if (!in(s, 0, 3) || !List.of(0, 8, 16, 64).contains(b)) {
      return finding(0);
    }
    if (!in(n, 0, 40)) {
      return finding(n < 0 ? 6 : 0);
    }
    bits[s] = b;
    sheets[s] = b == 0 ? null : new long[n];
    return b == 0 ? 0 : n;
  }

  private void put(int s, int i, long v) {
    sheets[s][i] = v << 64 - bits[s] >> 64 - bits[s];
  }

  private long write(int s, int i, long v) {
    if (!in(s, 0, 3)) {
      return finding(0);
    }
    if (sheets[s] == null) {
      return finding(5);
    }
    if (!in(i, 0, sheets[s].length - 1)) {
      return finding(0);
    }
    long was = sheets[s][i];
    put(s, i, v);
    return was;
  }

  private int copy(int s, int from, int t, int to, int n) {
    if (!in(s, 0, 3) || !in(t, 0, 3)) {
      return finding(0);
    }
    if (sheets[s] == null || sheets[t] == null) {
      return finding(5);
    }
    if (bits[s] != bits[t]) {
      return finding(2);
    }
    if (from < 0 || to < 0 || n < 0 || (long) from + n > sheets[s].length || (long) to + n > sheets[t].length) {
      return finding(0);
    }
    long[] was = sheets[s].clone();
    for (int i = 0; i < n; i++) {
      sheets[t][to + i] = was[from + i];
    }
    return n;
  }

  private int lays(int s) {
    if (!in(s, 0, 3)) {
      return finding(0);
    }
    if (sheets[s] == null) {
      return finding(5);
    }
    int came = 0;
    for (int i = 0; i < sheets[s].length; i++) {
      if (one(i) && sheets[s][i] >= 0 && sheets[s][i] < 10) {
        world.walkers.get(i)[3] = (int) sheets[s][i];
        came++;
      }
    }
    return came;
  }

  private int book(int s, int walker) {
    if (!in(s, 0, 3)) {
      return finding(0);
    }
    if (sheets[s] == null) {
      return finding(5);
    }
    if (!one(walker)) {
      return finding(0);
    }
    for (int i = 0; i < sheets[s].length; i++) {
      put(s, i, purse(world, walker, i));
    }
    return sheets[s].length;
  }

  private int read(int s, int walker) {
    if (!in(s, 0, 3)) {
      return finding(0);
    }
    if (sheets[s] == null) {
      return finding(5);
    }
    if (!one(walker)) {
      return finding(0);
    }
    int pairs = 0;
    for (int pair = 0; pair < 66; pair++) {
      World w = world.twin();
      w.walkers.get(walker)[0] = pair / 11;
      w.walkers.get(walker)[4] = pair % 11;
      boolean just = true;
      for (int i = 0; i < sheets[s].length && just; i++) {
        just = w.on(i).walkers.get(walker)[1] == sheets[s][i];
      }
      pairs += just ? 1 : 0;
    }
    return pairs;
  }

  private int undo() {
    if (image == null) {
      return finding(3);
    }
    world = image.twin();
    return world.walkers.size();
  }

  private int tear() {
    int was = image == null ? 0 : 1;
    image = null;
    return was;
  }

  private int count(int what) {
    switch (what) {
      case 0: return world.walkers.size();
      case 1: return tape.length();
      case 2: return Integer.bitCount(setOf(2, 1));
      case 3: return sumOf(3);
      default: return finding(0);
    }
  }

  private int status(int which) {
    if (!in(which, -1, 6)) {
      return finding(0);
    }
    int sum = 0;
    for (int i = 0; i < 7; i++) {
      sum += which == -1 || which == i ? found[i] : 0;
    }
    return sum;
  }
}
