import java.lang.reflect.Method;
import java.util.Arrays;
import java.util.HashMap;
import java.util.Map;
import java.util.Random;

/** Long runs of calls, drawn from fixed seeds, on the class and on the plain model: each answer must be the same. */
public final class ModelTest {
  private static final int RUNS = 1500;
  // What an object answers behind its 512th call is free; a text and the last look take some 200 calls.
  private static final int MOST_DRAWN = 300;
  // Each call with its arguments: k kind, m mile, w walker, t trait, s sheet, i number of a sheet, h hours far,
  // l hours near, y hours nearest, f money, v a value of a trait, q small what, b bytes, c how many bytes, n size,
  // g bits, j a long.
  private static final String[] COMMON = {
    "road qf", "road qv", "at m", "walker km", "walker km", "of wt", "of wt", "set wtv", "set wtv", "set wtv", "turn wk",
    "as wk", "hours h", "hours c", "now t", "on whq", "fund h", "sheet sgn", "write sij", "write siv", "copy sisin",
    "lays s", "image", "undo", "tear", "count q", "status t", "feed bc", "wipe", "text"};
  private static final String[] DEAR = {
    "empty", "comes wm", "meet ww", "worn w", "stop y", "penny lf", "reason wlf", "kind wl", "begin wl", "richest h",
    "rival wwl", "enough y", "book sw", "read sw"};
  private static final String[] WORDS = {
    "walker", "pedlar", "lover", "lame", "cheat", "pilgrim", "at", "down", "reason", "fund", "penny", "rain", "dry", ";",
    ";", "0", "3", "7", "12", "13", "20", "21", "009", "9999", "10000", "x", "A", "\u00e9", " "};
  private static final int[] WIDTHS = {0, 8, 8, 16, 16, 64, 64, 64, 7};

  private static final Map<String, Method> METHODS = new HashMap<>();
  private static int used = 0;

  public static void main(String[] args) throws Exception {
    for (Method method : PennyRoad.class.getDeclaredMethods()) {
      METHODS.put(method.getName(), method);
    }
    for (int seed = 0; seed < RUNS; seed++) {
      run(seed);
    }
    Check.end();
  }

  private static void run(int seed) throws Exception {
    Random random = new Random(seed);
    PennyRoad x = new PennyRoad();
    PlainModel model = new PlainModel();
    used = 0;
    while (used < MOST_DRAWN) {
      int draw = random.nextInt(100);
      if (draw < 4) {
        tellBoth(seed, random, x, model);
      } else if (draw < 8) {
        retrace(seed, random, x, model);
      } else {
        String[] calls = draw < 20 ? DEAR : COMMON;
        ask(seed, x, model, calls[random.nextInt(calls.length)], random);
      }
    }
    compareAll(seed, x, model);
    Check.holds("seed " + seed + " keeps to 512 calls", used <= 512);
  }

  private static void ask(int seed, PennyRoad x, PlainModel model, String call, Random random) throws Exception {
    String[] parts = call.split(" ");
    String letters = parts.length > 1 ? parts[1] : "";
    long[] args = new long[letters.length()];
    for (int i = 0; i < args.length; i++) {
      args[i] = draw(letters.charAt(i), random, model);
    }
    both(seed, x, model, parts[0], args);
  }

  private static long both(int seed, PennyRoad x, PlainModel model, String name, long... args) throws Exception {
    used++;
    Method method = METHODS.get(name);
    Object[] boxed = new Object[args.length];
    for (int i = 0; i < args.length; i++) {
      if (method.getParameterTypes()[i] == long.class) {
        boxed[i] = args[i];
      } else {
        boxed[i] = (int) args[i];
      }
    }
    long got = ((Number) method.invoke(x, boxed)).longValue();
    Check.due("seed " + seed + ": " + name + Arrays.toString(args), got, model.ask(name, args));
    return got;
  }

  private static long draw(char letter, Random random, PlainModel model) {
    if (random.nextInt(60) == 0) {
      return new int[] {-1, -2, 41, 100000, 1000000, Integer.MIN_VALUE, Integer.MAX_VALUE}[random.nextInt(7)];
    }
    switch (letter) {
      case 'k': return random.nextInt(6);
      case 'm': return random.nextInt(13);
      case 'w': return random.nextInt(Math.max(1, model.world.walkers.size() + (random.nextInt(9) == 0 ? 1 : 0)));
      case 't': return random.nextInt(10);
      case 's': return random.nextInt(4);
      case 'i': return random.nextInt(random.nextBoolean() ? 4 : 41);
      case 'h': return random.nextInt(random.nextBoolean() ? 12 : 201);
      case 'l': return 1 + random.nextInt(random.nextBoolean() ? 12 : 100);
      case 'y': return 1 + random.nextInt(random.nextBoolean() ? 12 : 60);
      case 'f': return random.nextInt(new int[] {30, 200, 2000, 1000000}[random.nextInt(4)]);
      case 'v': return random.nextInt(new int[] {2, 2, 10, 13, 100}[random.nextInt(5)]);
      case 'q': return random.nextInt(4);
      case 'b': return random.nextInt();
      case 'c': return random.nextInt(6);
      case 'n': return random.nextInt(random.nextBoolean() ? 5 : 42);
      case 'g': return WIDTHS[random.nextInt(WIDTHS.length)];
      default: return random.nextLong();
    }
  }

  private static void tellBoth(int seed, Random random, PennyRoad x, PlainModel model) throws Exception {
    both(seed, x, model, "wipe");
    StringBuilder text = new StringBuilder();
    if (random.nextBoolean()) {
      for (int i = random.nextInt(9); i >= 0; i--) {
        text.append(WORDS[random.nextInt(WORDS.length)]).append(random.nextInt(5) > 0 ? " " : "");
      }
    } else {
      for (int i = random.nextInt(4); i >= 0; i--) {
        text.append(properItem(random)).append(i > 0 ? ";" : "");
      }
      if (random.nextInt(3) == 0) {
        text.setCharAt(random.nextInt(text.length()), " ;a1".charAt(random.nextInt(4)));
      }
    }
    for (int i = 0; i < text.length(); i++) {
      both(seed, x, model, "feed", text.charAt(i), 1);
    }
    both(seed, x, model, "text");
  }

  private static String properItem(Random random) {
    switch (random.nextInt(6)) {
      case 0: return "fund " + random.nextInt(10100);
      case 1: return "penny " + random.nextInt(22);
      case 2: return random.nextBoolean() ? "rain" : " dry ";
      default: return WORDS[random.nextInt(6)] + (random.nextBoolean() ? " at " + random.nextInt(14) : "")
          + (random.nextBoolean() ? " down" : "") + (random.nextBoolean() ? " reason " + random.nextInt(11) : "");
    }
  }

  /** A sheet of the very miles that one goes, as drawn numbers would hardly ever be read at all. */
  private static void retrace(int seed, Random random, PennyRoad x, PlainModel model) throws Exception {
    int n = random.nextInt(6);
    long walker = draw('w', random, model);
    both(seed, x, model, "sheet", 0, 8, n);
    for (int i = 0; i < n; i++) {
      both(seed, x, model, "write", 0, i, both(seed, x, model, "on", walker, i, 0));
    }
    both(seed, x, model, "read", 0, walker);
  }

  private static void compareAll(int seed, PennyRoad x, PlainModel model) throws Exception {
    for (int i = -1; i < 8; i++) {
      both(seed, x, model, "now", i);
      both(seed, x, model, "status", i);
      for (int what = 0; what < 10; what++) {
        both(seed, x, model, "of", i, what);
      }
    }
  }
}
