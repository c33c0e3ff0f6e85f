/** Puts walkers on roads, as the tests need them. */
final class Roads {
  private Roads() {
  }

  /** A new road with one on it, by its KIND, MILE, UP, REASON, TIRED and WALKED. */
  static PennyRoad of(int kind, int mile, int up, int reason, int tired, int walked) {
    PennyRoad x = new PennyRoad();
    add(x, kind, mile, up, reason, tired, walked);
    return x;
  }

  /** One more, by its KIND, MILE, UP, REASON, TIRED and WALKED. */
  static int add(PennyRoad x, int kind, int mile, int up, int reason, int tired, int walked) {
    int number = x.walker(kind, mile);
    x.set(number, 2, up);
    x.set(number, 3, reason);
    x.set(number, 4, tired);
    x.set(number, 5, walked);
    return number;
  }

  /** One AT the upper HATCH that is paid for so much in the next HOUR. */
  static int arriving(PennyRoad x, int kind, int walked) {
    int number = x.walker(kind, 12);
    x.set(number, 5, walked);
    return number;
  }

  static void many(PennyRoad x, int n) {
    for (int i = 0; i < n; i++) {
      x.walker(0, 0);
    }
  }

  /** As many HOURS as may be in one call, over and over. */
  static void pass(PennyRoad x, int hours) {
    for (int left = hours; left > 0; left -= 200) {
      x.hours(Math.min(200, left));
    }
  }

  static String repeat(String part, int times) {
    StringBuilder all = new StringBuilder();
    for (int i = 0; i < times; i++) {
      all.append(part);
    }
    return all.toString();
  }
}
