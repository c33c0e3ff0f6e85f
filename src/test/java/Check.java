/** Counts answers that are not as due; what the tests share. */
final class Check {
  static final int BEYOND = -1000000001;
  static final int FULL = -1000000002;
  static final int KIND = -1000000003;
  static final int NONE = -1000000004;
  static final int STATE = -1000000005;
  static final int MISSING = -1000000006;
  static final int SIZE = -1000000007;

  private static int asked = 0;
  private static int wrong = 0;

  private Check() {
  }

  static void due(String call, long got, long want) {
    asked++;
    if (got != want) {
      wrong++;
      System.out.println(call + " answered " + got + ", due is " + want);
    }
  }

  static void holds(String what, boolean isSo) {
    due(what, isSo ? 1 : 0, 1);
  }

  static void feedAll(PennyRoad x, String bytes) {
    for (int i = 0; i < bytes.length(); i++) {
      x.feed(bytes.charAt(i), 1);
    }
  }

  static int tell(PennyRoad x, String bytes) {
    feedAll(x, bytes);
    return x.text();
  }

  static void end() {
    System.out.println(asked + " answers, " + wrong + " of them not as due");
    if (wrong != 0 || asked == 0) {
      System.exit(1);
    }
  }
}
