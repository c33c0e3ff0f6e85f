/** Each promise of the document by answers worked out by hand: ordinary ones, edges, wrong inputs. */
public final class PromisesTest {
  private static final int BEYOND = Check.BEYOND;
  private static final int FULL = Check.FULL;
  private static final int KIND = Check.KIND;
  private static final int NONE = Check.NONE;
  private static final int STATE = Check.STATE;
  private static final int MISSING = Check.MISSING;
  private static final int SIZE = Check.SIZE;
  private static final int[] WILD = {Integer.MIN_VALUE, -1, Integer.MAX_VALUE};

  public static void main(String[] args) {
    newObject();
    road();
    at();
    walker();
    ofTraits();
    ofPace();
    ofPay();
    set();
    turn();
    as();
    hoursGo();
    hoursAtTheHatch();
    hoursPay();
    hoursWear();
    hoursCompany();
    hoursEnd();
    now();
    on();
    fund();
    empty();
    comes();
    meet();
    worn();
    stop();
    penny();
    reason();
    kind();
    begin();
    richest();
    rival();
    enough();
    feed();
    wipe();
    textComes();
    textFaults();
    textNinth();
    sheet();
    write();
    copy();
    lays();
    book();
    read();
    images();
    count();
    status();
    Check.end();
  }

  private static void due(String call, long got, long want) {
    Check.due(call, got, want);
  }

  /** One at the upper hatch that is paid for so much in the next hour. */
  private static int arriving(PennyRoad x, int kind, int walked) {
    int number = x.walker(kind, 12);
    x.set(number, 5, walked);
    return number;
  }

  /** Each with KIND, MILE, UP, REASON, TIRED, STOPPED. */
  private static void put(PennyRoad x, int[][] walkers) {
    for (int[] w : walkers) {
      int number = x.walker(w[0], w[1]);
      x.set(number, 2, w[2]);
      x.set(number, 3, w[3]);
      x.set(number, 4, w[4]);
      x.set(number, 7, w[5]);
    }
  }

  private static void newObject() {
    PennyRoad x = new PennyRoad();
    int[] now = {0, 1000, 1, 0, 0, 0, 0, 0};
    for (int what = 0; what < now.length; what++) {
      due("1: new now(" + what + ")", x.now(what), now[what]);
    }
    for (int what = 0; what < 4; what++) {
      due("1: new count(" + what + ")", x.count(what), 0);
    }
    for (int which = -1; which < 7; which++) {
      due("1: new status(" + which + ")", x.status(which), 0);
    }
    due("1: new at(0)", x.at(0), 0);
    due("1: new of(0, 0)", x.of(0, 0), BEYOND);
    due("1: new tear()", x.tear(), 0);
    due("1: new undo()", x.undo(), NONE);
    due("1: new wipe()", x.wipe(), 0);
    for (int s = 0; s < 4; s++) {
      due("1: new lays(" + s + ")", x.lays(s), MISSING);
    }
  }

  private static void road() {
    PennyRoad x = new PennyRoad();
    due("2: fund 5", x.road(0, 5), 1000);
    due("2: fund most", x.road(0, 999999), 5);
    due("2: fund 0", x.road(0, 0), 999999);
    due("2: fund 7", x.road(0, 7), 0);
    due("2: penny 20", x.road(1, 20), 1);
    due("2: penny 0", x.road(1, 0), 20);
    due("2: penny 3", x.road(1, 3), 0);
    due("2: rain", x.road(2, 1), 0);
    due("2: rain still", x.road(2, 1), 1);
    int[][] wrong = {{-1, 0}, {3, 0}, {0, -1}, {0, 1000000}, {1, -1}, {1, 21}, {2, -1}, {2, 2}};
    for (int[] w : wrong) {
      due("2: road(" + w[0] + ", " + w[1] + ")", x.road(w[0], w[1]), BEYOND);
    }
    due("2: fund as it was", x.now(1), 7);
    due("2: penny as it was", x.now(2), 3);
    due("2: rain as it was", x.now(3), 1);
  }

  private static void at() {
    PennyRoad x = new PennyRoad();
    int[] miles = {0, 6, 12, 6, 6, 1, 11, 12};
    for (int mile : miles) {
      x.walker(0, mile);
    }
    due("3: at(0)", x.at(0), 1);
    due("3: at(6)", x.at(6), 2 + 8 + 16);
    due("3: at(12)", x.at(12), 4 + 128);
    due("3: at(2)", x.at(2), 0);
    due("3: at(13)", x.at(13), BEYOND);
    for (int wild : WILD) {
      due("3: at(" + wild + ")", x.at(wild), BEYOND);
    }
  }

  private static void walker() {
    PennyRoad x = new PennyRoad();
    due("4: kind 6", x.walker(6, 0), BEYOND);
    due("4: mile 13", x.walker(0, 13), BEYOND);
    for (int wild : WILD) {
      due("4: wild kind", x.walker(wild, 0), BEYOND);
      due("4: wild mile", x.walker(0, wild), BEYOND);
    }
    for (int i = 0; i < 8; i++) {
      due("4: number", x.walker(i % 6, 12 - i), i);
    }
    int[] traits = {5, 7, 1, 5, 0, 0, 0, 0};
    for (int what = 0; what < traits.length; what++) {
      due("4: a new one's " + what, x.of(5, what), traits[what]);
    }
    due("4: a 9th", x.walker(0, 0), FULL);
    due("4: a 9th of no kind", x.walker(6, 0), BEYOND);
    due("4: a 9th nowhere", x.walker(0, -1), BEYOND);
    due("4: still 8", x.count(0), 8);
  }

  private static void ofTraits() {
    PennyRoad x = new PennyRoad();
    x.walker(0, 0);
    x.walker(4, 3);
    int[] v = {4, 3, 0, 7, 98, 11, 999998, 1};
    for (int what = 2; what < 8; what++) {
      x.set(1, what, v[what]);
    }
    for (int what = 0; what < 8; what++) {
      due("5: of(1, " + what + ")", x.of(1, what), v[what]);
    }
    due("5: of(1, 10)", x.of(1, 10), BEYOND);
    due("5: of(2, 0)", x.of(2, 0), BEYOND);
    for (int wild : WILD) {
      due("5: wild walker", x.of(wild, 0), BEYOND);
      due("5: wild what", x.of(0, wild), BEYOND);
    }
  }

  private static void ofPace() {
    int[] fresh = {3, 3, 3, 1, 3, 1};
    int[] tired = {2, 2, 2, 1, 2, 1};
    for (int kind = 0; kind < 6; kind++) {
      PennyRoad x = new PennyRoad();
      x.walker(kind, 4);
      due("5: pace of " + kind, x.of(0, 8), fresh[kind]);
      x.set(0, 4, 9);
      due("5: pace at 9 tired of " + kind, x.of(0, 8), fresh[kind]);
      x.set(0, 4, 10);
      due("5: pace at 10 tired of " + kind, x.of(0, 8), tired[kind]);
      x.road(2, 1);
      due("5: pace in rain of " + kind, x.of(0, 8), tired[kind] + (kind == 5 ? 1 : 0));
      x.road(2, 0);
      x.set(0, 3, 0);
      due("5: pace without reason of " + kind, x.of(0, 8), tired[kind] + (kind == 4 ? 1 : 0));
      x.set(0, 3, 1);
      x.walker(0, 5);
      due("5: pace beside another mile of " + kind, x.of(0, 8), tired[kind]);
      x.walker(0, 4);
      due("5: pace in company of " + kind, x.of(0, 8), tired[kind] + (kind == 2 ? 1 : 0));
    }
  }

  private static void ofPay() {
    int[] dry = {21, 23, 42, 24, 23, 0};
    int[] rain = {28, 30, 56, 31, 30, 0};
    int[] forNothing = {0, 2, 0, 0, 2, 0};
    PennyRoad x = new PennyRoad();
    for (int kind = 0; kind < 6; kind++) {
      x.walker(kind, 4);
      x.road(1, 3);
      x.road(2, 0);
      due("5: pay for nothing of " + kind, x.of(kind, 9), forNothing[kind]);
      x.set(kind, 5, 7);
      due("5: pay of " + kind, x.of(kind, 9), dry[kind]);
      x.road(2, 1);
      due("5: pay in rain of " + kind, x.of(kind, 9), rain[kind]);
      x.road(1, 0);
      due("5: pay without a penny of " + kind, x.of(kind, 9), rain[kind] == 0 ? 0
          : new int[] {7, 9, 14, 10, 9, 0}[kind]);
    }
  }

  private static void set() {
    PennyRoad x = new PennyRoad();
    x.walker(0, 0);
    int[] first = {0, 0, 1, 5, 0, 0, 0, 0};
    int[] most = {0, 12, 1, 9, 99, 12, 999999, 1};
    for (int what = 1; what < 8; what++) {
      due("6: set most of " + what, x.set(0, what, most[what]), first[what]);
      due("6: set one above of " + what, x.set(0, what, most[what] + 1), BEYOND);
      due("6: set one below of " + what, x.set(0, what, -1), BEYOND);
      due("6: kept most of " + what, x.of(0, what), most[what]);
      due("6: set least of " + what, x.set(0, what, 0), most[what]);
      due("6: is least of " + what, x.of(0, what), 0);
    }
    due("6: set kind", x.set(0, 0, 1), BEYOND);
    due("6: set pace", x.set(0, 8, 1), BEYOND);
    due("6: set of none", x.set(1, 1, 1), BEYOND);
    for (int wild : WILD) {
      due("6: wild walker", x.set(wild, 1, 1), BEYOND);
      due("6: wild what", x.set(0, wild, 1), BEYOND);
      due("6: wild v", x.set(0, 6, wild), BEYOND);
    }
  }

  private static void turn() {
    PennyRoad x = new PennyRoad();
    x.walker(3, 4);
    x.set(0, 6, 77);
    due("7: to a pilgrim", x.turn(0, 5), 3);
    due("7: to a pilgrim still", x.turn(0, 5), 5);
    due("7: to a walker", x.turn(0, 0), 5);
    due("7: is a walker", x.of(0, 0), 0);
    due("7: purse stays", x.of(0, 6), 77);
    due("7: mile stays", x.of(0, 1), 4);
    due("7: kind 6", x.turn(0, 6), BEYOND);
    due("7: none", x.turn(1, 0), BEYOND);
    for (int wild : WILD) {
      due("7: wild walker", x.turn(wild, 0), BEYOND);
      due("7: wild kind", x.turn(0, wild), BEYOND);
    }
  }

  private static void as() {
    String[] kindsOf = {"0", "01", "02", "03", "014", "035"};
    PennyRoad x = new PennyRoad();
    for (int kind = 0; kind < 6; kind++) {
      x.walker(kind, 0);
      x.set(kind, 3, kind + 3);
      for (int asKind = 0; asKind < 6; asKind++) {
        boolean is = kindsOf[kind].indexOf('0' + asKind) >= 0;
        due("8: as(" + kind + ", " + asKind + ")", x.as(kind, asKind), is ? kind + 3 : KIND);
      }
    }
    due("8: no such kind", x.as(0, 6), BEYOND);
    due("8: no such one", x.as(6, 0), BEYOND);
    for (int wild : WILD) {
      due("8: wild walker", x.as(wild, 0), BEYOND);
      due("8: wild kind", x.as(0, wild), BEYOND);
    }
  }

  private static void isAt(String when, PennyRoad x, int walker, int... traits) {
    String[] names = {"mile", "up", "reason", "tired", "walked", "purse"};
    for (int i = 0; i < traits.length; i++) {
      due("9: " + when + ", " + names[i], x.of(walker, i + 1), traits[i]);
    }
  }

  private static void hoursGo() {
    PennyRoad x = new PennyRoad();
    x.walker(0, 0);
    x.hours(1);
    isAt("1 hour", x, 0, 3, 1, 5, 1, 3, 0);
    x.hours(1);
    isAt("at the stone", x, 0, 6, 1, 5, 0, 6, 0);
    x.hours(1);
    isAt("3 hours", x, 0, 9, 1, 5, 1, 9, 0);
    due("9: fund when paid", x.hours(1), 988);
    isAt("at the hatch", x, 0, 12, 0, 4, 2, 0, 12);
    x.hours(1);
    isAt("down again", x, 0, 9, 0, 4, 3, 3, 12);
    due("9: fund when paid below", x.hours(3), 976);
    isAt("at the lower hatch", x, 0, 0, 1, 3, 2, 0, 24);
    due("9: hour", x.now(0), 8);

    PennyRoad y = new PennyRoad();
    y.walker(0, 0);
    y.set(0, 4, 9);
    y.hours(1);
    isAt("tired from now on", y, 0, 3, 1, 5, 10, 3, 0);
    y.hours(1);
    isAt("slower", y, 0, 5, 1, 5, 11, 5, 0);
    y.set(0, 4, 99);
    y.hours(1);
    isAt("no more tired than can be", y, 0, 7, 1, 5, 99, 7, 0);
    y.set(0, 5, 11);
    y.hours(1);
    isAt("walked no more than can be", y, 0, 9, 1, 5, 99, 12, 0);
    y.set(0, 7, 1);
    y.hours(7);
    isAt("stopped", y, 0, 9, 1, 5, 99, 12, 0);
    due("9: hour goes with one stopped", y.now(0), 11);
  }

  private static void hoursAtTheHatch() {
    PennyRoad x = new PennyRoad();
    x.walker(0, 11);
    due("9: no further than the hatch", x.hours(1), 999);
    isAt("paid for a mile", x, 0, 12, 0, 4, 1, 0, 1);

    PennyRoad y = new PennyRoad();
    y.walker(1, 12);
    due("9: it was there before", y.hours(1), 998);
    isAt("paid a pedlar's pay", y, 0, 12, 0, 5, 1, 0, 2);
    y.set(0, 1, 0);
    due("9: there before, below", y.hours(1), 996);
    isAt("paid below", y, 0, 0, 1, 4, 2, 0, 4);
    due("9: from the hatch behind it", y.hours(1), 996);
    isAt("gone from it", y, 0, 3, 1, 4, 3, 3, 4);

    PennyRoad z = new PennyRoad();
    z.walker(4, 8);
    z.set(0, 3, 0);
    due("9: no pay without a reason", z.hours(1), 1000);
    isAt("turned all the same", z, 0, 12, 0, 0, 1, 0, 0);

    PennyRoad s = new PennyRoad();
    s.walker(1, 12);
    s.set(0, 7, 1);
    due("9: a stopped one isn't paid", s.hours(1), 1000);
    isAt("stopped at the hatch", s, 0, 12, 1, 5, 0, 0, 0);
  }

  private static void hoursPay() {
    PennyRoad x = new PennyRoad();
    arriving(x, 0, 7);
    arriving(x, 2, 4);
    arriving(x, 0, 2);
    x.road(0, 9);
    due("9: as much as there is", x.hours(1), 0);
    due("9: first its pay", x.of(0, 6), 7);
    due("9: second what is left", x.of(1, 6), 2);
    due("9: third nothing", x.of(2, 6), 0);
    due("9: it wears all the same", x.of(2, 3), 4);

    PennyRoad y = new PennyRoad();
    arriving(y, 0, 7);
    y.set(0, 6, 999995);
    due("9: the fund pays what the purse can't hold", y.hours(1), 993);
    due("9: purse most", y.of(0, 6), 999999);

    PennyRoad z = new PennyRoad();
    z.road(1, 20);
    z.road(2, 1);
    int[] pays = {252, 254, 504, 258, 254, 0};
    for (int kind = 0; kind < 6; kind++) {
      arriving(z, kind, 12);
    }
    z.road(0, 5000);
    due("9: all kinds paid", z.hours(1), 5000 - 252 - 254 - 504 - 258 - 254);
    for (int kind = 0; kind < 6; kind++) {
      due("9: paid " + kind, z.of(kind, 6), pays[kind]);
    }
  }

  private static void hoursWear() {
    PennyRoad x = new PennyRoad();
    for (int kind = 0; kind < 6; kind++) {
      x.walker(kind, 12);
    }
    int[] atFives = {8, 9, 8, 9, 8, 9};
    int[] atOthers = {8, 8, 8, 9, 6, 9};
    for (int hour = 0; hour < 11; hour++) {
      for (int kind = 0; kind < 6; kind++) {
        x.set(kind, 1, 12);
        x.set(kind, 2, 1);
        x.set(kind, 3, 9);
      }
      x.hours(1);
      for (int kind = 0; kind < 6; kind++) {
        due("9: reason of " + kind + " worn at hour " + hour, x.of(kind, 3),
            hour % 5 == 0 ? atFives[kind] : atOthers[kind]);
      }
    }
    x.set(4, 1, 12);
    x.set(4, 2, 1);
    x.set(4, 3, 2);
    x.hours(1);
    due("9: no less than no reason", x.of(4, 3), 0);
  }

  private static void hoursCompany() {
    PennyRoad x = new PennyRoad();
    x.walker(0, 3);
    x.walker(2, 6);
    x.hours(1);
    due("9: one came ahead of the lover's going", x.of(1, 1), 10);

    PennyRoad y = new PennyRoad();
    y.walker(2, 6);
    y.walker(0, 3);
    y.hours(1);
    due("9: one came behind the lover's going", y.of(0, 1), 9);

    PennyRoad z = new PennyRoad();
    z.walker(0, 6);
    z.walker(2, 6);
    z.hours(1);
    due("9: one had left the lover", z.of(1, 1), 9);
    z.set(0, 1, 1);
    z.set(1, 1, 1);
    z.set(0, 7, 1);
    z.hours(1);
    due("9: a stopped one is company", z.of(1, 1), 5);
  }

  private static void hoursEnd() {
    PennyRoad x = new PennyRoad();
    due("9: hours(0)", x.hours(0), BEYOND);
    due("9: hours(201)", x.hours(201), BEYOND);
    for (int wild : WILD) {
      due("9: wild hours", x.hours(wild), BEYOND);
    }
    for (int i = 0; i < 490; i++) {
      x.hours(200);
    }
    due("9: hour far on", x.now(0), 98000);
    for (int i = 0; i < 9; i++) {
      x.hours(200);
    }
    due("9: one hour too many", x.hours(200), STATE);
    due("9: to the last hour", x.hours(199), 1000);
    due("9: the last hour", x.now(0), 99999);
    due("9: none behind the last", x.hours(1), STATE);
    due("9: beyond is asked first", x.hours(201), BEYOND);
    due("12: on beyond the last hour", x.fund(200), 1000);
  }

  private static void now() {
    PennyRoad x = new PennyRoad();
    for (int i = 0; i < 4; i++) {
      x.walker(0, i);
      x.set(i, 6, 999999 - i);
      x.set(i, 5, 12 - i);
    }
    x.set(1, 3, 0);
    x.set(2, 7, 1);
    x.set(3, 7, 1);
    x.road(0, 44);
    x.road(1, 2);
    x.road(2, 1);
    x.hours(1);
    int[] want = {1, 44, 2, 1, 4 * 999999 - 6, 13, 12, 12 + 12 + 10 + 9};
    for (int what = 0; what < want.length; what++) {
      due("10: now(" + what + ")", x.now(what), want[what]);
    }
    due("10: now(8)", x.now(8), BEYOND);
    for (int wild : WILD) {
      due("10: wild now", x.now(wild), BEYOND);
    }
  }

  private static void on() {
    PennyRoad x = new PennyRoad();
    x.walker(0, 0);
    x.walker(3, 0);
    int[] miles = {0, 3, 6, 9, 12, 9, 6, 3, 0};
    for (int n = 0; n < miles.length; n++) {
      due("11: mile on " + n, x.on(0, n, 0), miles[n]);
      due("11: purse on " + n, x.on(0, n, 1), n / 4 * 12);
      due("11: reason on " + n, x.on(0, n, 2), 5 - n / 4);
    }
    due("11: worn and paid out", x.on(0, 200, 1), 60);
    due("11: lame on 200", x.on(1, 200, 0), 8);
    due("11: nothing changes", x.now(0) + x.of(0, 1) + x.now(4), 0);
    due("11: on 201", x.on(0, 201, 0), BEYOND);
    due("11: what 3", x.on(0, 0, 3), BEYOND);
    due("11: no such one", x.on(2, 0, 0), BEYOND);
    for (int wild : WILD) {
      due("11: wild walker", x.on(wild, 0, 0), BEYOND);
      due("11: wild n", x.on(0, wild, 0), BEYOND);
      due("11: wild what", x.on(0, 0, wild), BEYOND);
    }
  }

  private static void fund() {
    PennyRoad x = new PennyRoad();
    x.walker(0, 0);
    due("12: fund(0)", x.fund(0), 1000);
    due("12: fund(3)", x.fund(3), 1000);
    due("12: fund(4)", x.fund(4), 988);
    due("12: fund(8)", x.fund(8), 976);
    due("12: fund(200)", x.fund(200), 940);
    due("12: nothing changes", x.now(1), 1000);
    due("12: fund(201)", x.fund(201), BEYOND);
    for (int wild : WILD) {
      due("12: wild fund", x.fund(wild), BEYOND);
    }
  }

  private static void empty() {
    PennyRoad x = new PennyRoad();
    due("13: nobody takes it", x.empty(), NONE);
    // A LAME one from MILE 4 is AT a HATCH ON 8, 20, .. 200 HOURS: 12, then 16 times 18.
    x.walker(3, 4);
    x.road(0, 12);
    due("13: at the first hatch", x.empty(), 8);
    x.road(0, 13);
    due("13: at the second hatch", x.empty(), 20);
    x.road(0, 300);
    due("13: at the last hour", x.empty(), 200);
    x.road(0, 301);
    due("13: behind the last hour", x.empty(), NONE);
    x.road(0, 0);
    due("13: now", x.empty(), 0);
    due("13: nothing changes", x.of(0, 1), 4);
  }

  private static void comes() {
    PennyRoad x = new PennyRoad();
    x.walker(0, 3);
    x.set(0, 2, 0);
    due("14: is there", x.comes(0, 3), 0);
    due("14: the hatch below", x.comes(0, 0), 1);
    due("14: the stone", x.comes(0, 6), 3);
    due("14: the hatch above", x.comes(0, 12), 5);
    due("14: between its steps", x.comes(0, 1), NONE);
    due("14: nothing changes", x.of(0, 1), 3);
    PennyRoad y = new PennyRoad();
    put(y, new int[][] {{1, 12, 1, 4, 10, 0}, {0, 7, 1, 3, 9, 0}, {4, 12, 0, 8, 4, 0}, {2, 1, 0, 9, 8, 0}});
    due("14: at the last hour", y.comes(3, 11), 200);
    due("14: it is there then", y.on(3, 200, 0), 11);
    due("14: no such mile", x.comes(0, 13), BEYOND);
    due("14: no such one", x.comes(1, 0), BEYOND);
    for (int wild : WILD) {
      due("14: wild walker", x.comes(wild, 0), BEYOND);
      due("14: wild mile", x.comes(0, wild), BEYOND);
    }
  }

  private static void meet() {
    PennyRoad x = new PennyRoad();
    x.walker(0, 0);
    x.walker(0, 12);
    x.set(1, 2, 0);
    x.walker(0, 12);
    x.walker(0, 5);
    x.set(3, 7, 1);
    due("15: half way", x.meet(0, 1), 2);
    due("15: the other way round", x.meet(1, 0), 2);
    due("15: now", x.meet(1, 2), 0);
    due("15: never", x.meet(0, 3), NONE);
    due("15: nothing changes", x.now(0), 0);
    PennyRoad y = new PennyRoad();
    y.road(2, 1);
    put(y, new int[][] {{0, 2, 0, 0, 0, 0}, {0, 1, 0, 6, 2, 1}, {4, 7, 1, 6, 0, 0}, {2, 8, 1, 8, 4, 0},
        {0, 2, 0, 9, 4, 0}, {2, 1, 1, 0, 6, 0}});
    due("15: at the last hour", y.meet(4, 5), 200);
    due("15: they are there then", y.on(4, 200, 0) - y.on(5, 200, 0), 0);
    due("15: itself", x.meet(0, 0), BEYOND);
    due("15: none", x.meet(0, 4), BEYOND);
    due("15: none first", x.meet(4, 0), BEYOND);
    for (int wild : WILD) {
      due("15: wild walker", x.meet(wild, 0), BEYOND);
      due("15: wild other", x.meet(0, wild), BEYOND);
    }
  }

  private static void worn() {
    PennyRoad x = new PennyRoad();
    x.walker(0, 0);
    x.walker(1, 0);
    x.walker(3, 0);
    x.walker(4, 0);
    due("16: a walker", x.worn(0), 20);
    // Paid at hours 3, 7, 11, 15, 19, 23, of which 15 costs it nothing.
    due("16: a pedlar", x.worn(1), 24);
    due("16: a lame one", x.worn(2), NONE);
    due("16: a cheat", x.worn(3), 8);
    x.set(2, 3, 0);
    due("16: now", x.worn(2), 0);
    due("16: nothing changes", x.of(0, 3), 5);
    due("16: none", x.worn(4), BEYOND);
    for (int wild : WILD) {
      due("16: wild walker", x.worn(wild), BEYOND);
    }
  }

  private static void stop() {
    PennyRoad x = new PennyRoad();
    due("17: nobody", x.stop(60), 0);
    arriving(x, 0, 5);
    arriving(x, 0, 3);
    int[] funds = {9, 8, 6, 5, 4, 3, 1};
    int[] sets = {0, 1, 1, 1, 1, 3, 3};
    for (int i = 0; i < funds.length; i++) {
      x.road(0, funds[i]);
      due("17: fund " + funds[i], x.stop(1), sets[i]);
    }
    x.set(0, 7, 1);
    x.road(0, 3);
    due("17: one is stopped already", x.stop(1), 2);
    x.road(0, 4);
    due("17: and that is enough", x.stop(1), 0);
    due("17: nothing changes", x.now(6), 1);
    x.road(0, 0);
    due("17: not even with all", x.stop(1), NONE);
    due("17: stop(0)", x.stop(0), BEYOND);
    due("17: stop(61)", x.stop(61), BEYOND);
    for (int wild : WILD) {
      due("17: wild stop", x.stop(wild), BEYOND);
    }

    PennyRoad y = new PennyRoad();
    int[] walked = {1, 2, 4, 1, 1, 1, 1, 6};
    for (int w : walked) {
      arriving(y, 0, w);
    }
    y.road(0, 9);
    due("17: fewest, though of a greater number", y.stop(1), 4 + 128);
    // A LAME one from MILE 0 is paid 18 in the HOURS 12, 24, 36, 48 and 60.
    PennyRoad z = new PennyRoad();
    z.walker(3, 0);
    z.road(0, 90);
    due("17: still some in the hour before", z.stop(59), 0);
    due("17: none in the last hour", z.stop(60), 1);
  }

  private static void penny() {
    PennyRoad x = new PennyRoad();
    arriving(x, 0, 5);
    x.road(0, 100);
    int[] v = {0, 1, 50, 51, 95, 96, 100, 101};
    int[] want = {20, 19, 10, 9, 1, 0, 0, NONE};
    for (int i = 0; i < v.length; i++) {
      due("18: penny(1, " + v[i] + ")", x.penny(1, v[i]), want[i]);
    }
    due("18: penny(100, 0)", x.penny(100, 0), 20);
    due("18: penny(1, 999999)", x.penny(1, 999999), NONE);
    due("18: nothing changes", x.now(2), 1);
    due("18: n 0", x.penny(0, 0), BEYOND);
    due("18: n 101", x.penny(101, 0), BEYOND);
    due("18: v 1000000", x.penny(1, 1000000), BEYOND);
    for (int wild : WILD) {
      due("18: wild n", x.penny(wild, 0), BEYOND);
      due("18: wild v", x.penny(1, wild), BEYOND);
    }
  }

  private static void reason() {
    PennyRoad x = new PennyRoad();
    x.walker(0, 0);
    x.set(0, 6, 30);
    int[] v = {0, 30, 31, 42, 43, 54, 55};
    int[] want = {0, 0, 1, 1, 2, 2, NONE};
    for (int i = 0; i < v.length; i++) {
      due("19: reason(0, 8, " + v[i] + ")", x.reason(0, 8, v[i]), want[i]);
    }
    due("19: an hour", x.reason(0, 1, 30), 0);
    due("19: the most", x.reason(0, 100, 30 + 9 * 12), 9);
    due("19: more than the most", x.reason(0, 100, 31 + 9 * 12), NONE);
    due("19: nothing changes", x.of(0, 3), 5);
    due("19: none", x.reason(1, 1, 0), BEYOND);
    due("19: n 0", x.reason(0, 0, 0), BEYOND);
    due("19: n 101", x.reason(0, 101, 0), BEYOND);
    due("19: v 1000000", x.reason(0, 1, 1000000), BEYOND);
    for (int wild : WILD) {
      due("19: wild walker", x.reason(wild, 1, 0), BEYOND);
      due("19: wild n", x.reason(0, wild, 0), BEYOND);
      due("19: wild v", x.reason(0, 1, wild), BEYOND);
    }
  }

  private static void kind() {
    int[] walked = {0, 1, 2, 3, 6};
    int[] want = {1, 1, 1, 2, 2};
    for (int i = 0; i < walked.length; i++) {
      PennyRoad x = new PennyRoad();
      arriving(x, 5, walked[i]);
      due("20: walked " + walked[i], x.kind(0, 1), want[i]);
      due("20: nothing changes", x.of(0, 0), 5);
      x.set(0, 3, 0);
      due("20: all alike", x.kind(0, 1), 0);
    }
    PennyRoad y = new PennyRoad();
    y.walker(0, 0);
    // A LAME one is paid on for ever: 8 times 18 in 100 hours; a LOVER 5 times 24, but
    // with a REASON of 9 it is paid 9 times.
    due("20: the lame outlasts it", y.kind(0, 100), 3);
    y.set(0, 3, 9);
    due("20: with more reason", y.kind(0, 100), 2);
    due("20: none", y.kind(1, 1), BEYOND);
    due("20: n 0", y.kind(0, 0), BEYOND);
    due("20: n 101", y.kind(0, 101), BEYOND);
    for (int wild : WILD) {
      due("20: wild walker", y.kind(wild, 1), BEYOND);
      due("20: wild n", y.kind(0, wild), BEYOND);
    }
  }

  private static void begin() {
    PennyRoad x = new PennyRoad();
    x.walker(0, 12);
    x.set(0, 5, 12);
    due("21: an hour up", x.begin(0, 1), 9);
    due("21: two hours up", x.begin(0, 2), 6);
    due("21: four hours up", x.begin(0, 4), 0);
    x.set(0, 2, 0);
    due("21: an hour down", x.begin(0, 1), 3);
    due("21: two hours down", x.begin(0, 2), 6);
    due("21: four hours down", x.begin(0, 4), 12);
    due("21: nothing changes", x.of(0, 5) + x.of(0, 1), 24);
    x.set(0, 3, 0);
    due("21: all alike", x.begin(0, 100), 0);
    due("21: none", x.begin(1, 1), BEYOND);
    due("21: n 0", x.begin(0, 0), BEYOND);
    due("21: n 101", x.begin(0, 101), BEYOND);
    for (int wild : WILD) {
      due("21: wild walker", x.begin(wild, 1), BEYOND);
      due("21: wild n", x.begin(0, wild), BEYOND);
    }
  }

  private static void richest() {
    PennyRoad x = new PennyRoad();
    due("22: nobody", x.richest(0), NONE);
    due("22: beyond is asked first", x.richest(201), BEYOND);
    x.walker(5, 0);
    x.walker(0, 0);
    x.walker(0, 0);
    x.walker(2, 3);
    x.walker(2, 3);
    due("22: all alike", x.richest(0), 0);
    due("22: lovers", x.richest(3), 3);
    x.set(2, 6, 30);
    due("22: who has it already", x.richest(3), 2);
    due("22: on 200", x.richest(200), 3);
    due("22: nothing changes", x.now(0), 0);
    for (int wild : WILD) {
      due("22: wild n", x.richest(wild), BEYOND);
    }
  }

  private static void rival() {
    PennyRoad x = new PennyRoad();
    arriving(x, 0, 5);
    arriving(x, 0, 5);
    x.road(0, 6);
    due("23: it took the money", x.rival(1, 0, 1), 4);
    due("23: it came too late", x.rival(0, 1, 1), 0);
    x.set(0, 7, 1);
    due("23: it is stopped already", x.rival(1, 0, 1), 0);
    due("23: nothing changes", x.now(1), 6);
    due("23: itself", x.rival(0, 0, 1), BEYOND);
    due("23: none", x.rival(2, 0, 1), BEYOND);
    due("23: no other", x.rival(0, 2, 1), BEYOND);
    due("23: n 0", x.rival(0, 1, 0), BEYOND);
    due("23: n 100", x.rival(0, 1, 100), 0);
    due("23: n 101", x.rival(0, 1, 101), BEYOND);
    for (int wild : WILD) {
      due("23: wild walker", x.rival(wild, 0, 1), BEYOND);
      due("23: wild other", x.rival(0, wild, 1), BEYOND);
      due("23: wild n", x.rival(0, 1, wild), BEYOND);
    }
    PennyRoad y = new PennyRoad();
    y.walker(0, 5);
    y.walker(2, 8);
    due("23: the lover hastens for it", y.rival(1, 0, 1), -8);
  }

  private static void enough() {
    PennyRoad x = new PennyRoad();
    due("24: nobody", x.enough(60), 1);
    arriving(x, 0, 5);
    due("24: one", x.enough(1), 6);
    x.road(0, 0);
    due("24: whatever there is", x.enough(1), 6);
    due("24: nothing changes", x.now(1), 0);
    due("24: n 0", x.enough(0), BEYOND);
    due("24: n 61", x.enough(61), BEYOND);
    for (int wild : WILD) {
      due("24: wild n", x.enough(wild), BEYOND);
    }
    // With a PENNY of 19: two LOVERS 912, PEDLARS 2 and more, LAME 19 a mile and half the miles.
    PennyRoad y = new PennyRoad();
    y.road(1, 19);
    arriving(y, 2, 12);
    arriving(y, 2, 12);
    for (int i = 0; i < 4; i++) {
      arriving(y, 1, 0);
    }
    arriving(y, 3, 4);
    due("24: the most that is told", y.enough(1), 999);
    y.set(6, 5, 2);
    arriving(y, 1, 2);
    due("24: one more", y.enough(1), NONE);
  }

  private static void feed() {
    PennyRoad x = new PennyRoad();
    due("25: the highest first", x.feed(0x7A647279, 3), 3);
    due("25: as told", x.text(), 1);
    due("25: 4", x.feed(0x7261696E, 4), 4);
    due("25: 1", x.feed(0x3B, 1), 5);
    due("25: 2", x.feed(0x6472, 2), 7);
    due("25: 1 of 4", x.feed(0x61626379, 1), 8);
    due("25: as told, too", x.text(), 2);
    due("25: n 0", x.feed(0, 0), BEYOND);
    due("25: n 5", x.feed(0, 5), BEYOND);
    for (int wild : WILD) {
      due("25: wild n", x.feed(0, wild), BEYOND);
    }
    for (int i = 1; i < 30; i++) {
      due("25: four more", x.feed(-1, 4), 4 * i);
    }
    due("25: three more", x.feed(-1, 3), 119);
    due("25: no room for two", x.feed(-1, 2), FULL);
    due("25: room for one", x.feed(-1, 1), 120);
    due("25: no room", x.feed(-1, 1), FULL);
    due("25: beyond is asked first", x.feed(-1, 5), BEYOND);
    due("25: still 120", x.count(1), 120);
  }

  private static void wipe() {
    PennyRoad x = new PennyRoad();
    x.feed(0, 3);
    due("26: had 3", x.wipe(), 3);
    due("26: has none", x.count(1), 0);
    due("26: had none", x.wipe(), 0);
    due("26: what comes is first", Check.tell(x, "dry"), 1);
  }

  private static void textComes() {
    PennyRoad x = new PennyRoad();
    x.road(2, 1);
    x.walker(0, 1);
    due("27: items", Check.tell(x, "  cheat at 12 down reason 0;pilgrim;lame down ;lover reason9; fund 9999;"
        + "penny20;dry;walker at0;pedlar at007down"), 9);
    due("27: the tape is empty", x.count(1), 0);
    int[][] want = {{0, 1, 1, 5}, {4, 12, 0, 0}, {5, 0, 1, 5}, {3, 0, 0, 5}, {2, 0, 1, 9}, {0, 0, 1, 5}, {1, 7, 0, 5}};
    due("27: walkers", x.count(0), want.length);
    for (int i = 0; i < want.length; i++) {
      for (int what = 0; what < 4; what++) {
        due("27: of(" + i + ", " + what + ")", x.of(i, what), want[i][what]);
      }
    }
    due("27: fund", x.now(1), 9999);
    due("27: penny", x.now(2), 20);
    due("27: dry", x.now(3), 0);
    due("27: the last one tells", Check.tell(x, "rain;dry;rain;fund 1;fund 0;penny 3;penny 0"), 7);
    due("27: rain", x.now(3), 1);
    due("27: no fund", x.now(1), 0);
    due("27: no penny", x.now(2), 0);
    StringBuilder drys = new StringBuilder("dry");
    for (int i = 1; i < 30; i++) {
      drys.append(";dry");
    }
    due("27: 119 bytes", Check.tell(x, drys.toString()), 30);
    due("27: 120 bytes", Check.tell(x, drys + " "), 30);
  }

  private static void textFaults() {
    Object[][] faults = {
      {"", 0}, {"   ", 3}, {";", 0}, {"dry;", 4}, {"dry; ", 5}, {"dry;;dry", 4}, {"dry dry", 4}, {"drydry", 0},
      {"walkers", 0}, {"walkerz", 0}, {"awalker", 0}, {"Walker", 0}, {"walker,", 6}, {"walker at", 9}, {"walker at ", 10}, {"walker at 13", 10},
      {"walker at down", 10}, {"walker 3", 7}, {"walker down at 3", 12}, {"walker reason 3 down", 16},
      {"walker at 3 at 4", 12}, {"walker down down", 12}, {"walker reason", 13}, {"walker reason 10", 14},
      {"walker reason 1 reason 1", 16}, {"fund", 4}, {"fund 10000", 5}, {"fund 4294967297", 5}, {"fund fund", 5},
      {"fund 1 2", 7}, {"fund 12345;", 5}, {"penny 21", 6}, {"penny", 5}, {"penny;", 5}, {"rain 1", 5}, {"rain;at 3", 5},
      {"12", 0}, {"walker\tat 3", 6}, {"fund -1", 5}, {"fund \u00b9", 5}, {"dry \u0000", 4}, {"dry;rain;snow;fund", 9},
      {"walker at 12a", 12}, {"walker at 1 2", 12}, {"reason 3", 0}, {"down", 0},
    };
    for (Object[] fault : faults) {
      PennyRoad x = new PennyRoad();
      x.road(1, 7);
      due("27: fault in '" + fault[0] + "'", Check.tell(x, (String) fault[0]), -1 - (Integer) fault[1]);
      due("27: nobody came by '" + fault[0] + "'", x.count(0), 0);
      due("27: tape empty behind '" + fault[0] + "'", x.count(1), 0);
      due("27: no finding for '" + fault[0] + "'", x.status(-1), 0);
      due("27: fund behind '" + fault[0] + "'", x.now(1), 1000);
      due("27: penny behind '" + fault[0] + "'", x.now(2), 7);
      due("27: dry behind '" + fault[0] + "'", x.now(3), 0);
    }
    PennyRoad y = new PennyRoad();
    due("27: all or nothing", Check.tell(y, "walker;fund 3;rain;penny 4;lame at 13"), -1 - 35);
    due("27: nobody", y.count(0), 0);
    due("27: the fund as it was", y.now(1), 1000);
    due("27: the penny as it was", y.now(2), 1);
    due("27: dry as it was", y.now(3), 0);
  }

  private static void textNinth() {
    PennyRoad x = new PennyRoad();
    for (int i = 0; i < 6; i++) {
      x.walker(0, 0);
    }
    due("27: a 9th", Check.tell(x, "lame;lame; lame at 99"), -1 - 11);
    due("27: none of them came", x.count(0), 6);
    due("27: two more", Check.tell(x, "lame;lame"), 2);
    due("27: a 9th alone", Check.tell(x, "lame"), -1);
    due("27: something else", Check.tell(x, "rain"), 1);
  }

  private static void sheet() {
    PennyRoad x = new PennyRoad();
    for (int bits : new int[] {8, 16, 64}) {
      due("28: 40 numbers", x.sheet(3, bits, 40), 40);
      x.write(3, 39, 5);
      due("28: anew", x.sheet(3, bits, 40), 40);
      due("28: all 0", x.write(3, 39, 1), 0);
      due("28: fewer", x.sheet(3, bits, 2), 2);
      due("28: no number 2", x.write(3, 2, 1), BEYOND);
      due("28: none", x.sheet(3, bits, 0), 0);
      due("28: no number 0", x.write(3, 0, 1), BEYOND);
    }
    due("28: missing", x.sheet(3, 0, 7), 0);
    due("28: is missing", x.write(3, 0, 1), MISSING);
    due("28: missing of -1", x.sheet(3, 0, -1), SIZE);
    due("28: missing of 41", x.sheet(3, 0, 41), BEYOND);
    due("28: -1", x.sheet(3, 8, -1), SIZE);
    due("28: 41", x.sheet(3, 8, 41), BEYOND);
    due("28: no such sheet", x.sheet(4, 8, -1), BEYOND);
    for (int bits : new int[] {-8, 1, 7, 9, 32, 63, 128, Integer.MAX_VALUE, Integer.MIN_VALUE}) {
      due("28: bits " + bits, x.sheet(0, bits, -1), BEYOND);
    }
    for (int wild : WILD) {
      due("28: wild sheet", x.sheet(wild, 8, 1), BEYOND);
      due("28: wild n", x.sheet(0, 8, wild), wild < 0 ? SIZE : BEYOND);
    }
    due("28: none came of it", x.lays(0), MISSING);
  }

  private static void write() {
    PennyRoad x = new PennyRoad();
    x.sheet(0, 8, 2);
    x.sheet(1, 16, 2);
    x.sheet(2, 64, 2);
    long[] v = {300, 65543, 127, 32767, -1, 128, 32768, Long.MIN_VALUE, Long.MAX_VALUE};
    long[] of8 = {44, 7, 127, -1, -1, -128, 0, 0, -1};
    long[] of16 = {300, 7, 127, 32767, -1, 128, -32768, 0, -1};
    for (int i = 0; i < v.length; i++) {
      for (int s = 0; s < 3; s++) {
        x.write(s, 1, v[i]);
      }
      due("29: 8 bits of " + v[i], x.write(0, 1, 9), of8[i]);
      due("29: 16 bits of " + v[i], x.write(1, 1, 9), of16[i]);
      due("29: 64 bits of " + v[i], x.write(2, 1, 9), v[i]);
    }
    due("29: the other number", x.write(2, 0, 9), 0);
    due("29: missing", x.write(3, -1, 0), MISSING);
    due("29: no number 2", x.write(0, 2, 0), BEYOND);
    due("29: no such sheet", x.write(4, 0, 0), BEYOND);
    for (int wild : WILD) {
      due("29: wild sheet", x.write(wild, 0, 0), BEYOND);
      due("29: wild number", x.write(0, wild, 0), BEYOND);
    }
  }

  private static void fill(PennyRoad x, int s, int... numbers) {
    for (int i = 0; i < numbers.length; i++) {
      x.write(s, i, numbers[i]);
    }
  }

  private static void holds(String when, PennyRoad x, int s, int... numbers) {
    for (int i = 0; i < numbers.length; i++) {
      due(when + ", number " + i, x.write(s, i, numbers[i]), numbers[i]);
    }
  }

  private static void copy() {
    PennyRoad x = new PennyRoad();
    x.sheet(0, 16, 5);
    x.sheet(1, 16, 3);
    x.sheet(2, 8, 5);
    fill(x, 0, 1, 2, 3, 4, 5);
    due("30: to another", x.copy(0, 2, 1, 0, 3), 3);
    holds("30: another", x, 1, 3, 4, 5);
    due("30: to its own, on", x.copy(0, 0, 0, 1, 4), 4);
    holds("30: as they were", x, 0, 1, 1, 2, 3, 4);
    due("30: to its own, back", x.copy(0, 1, 0, 0, 4), 4);
    holds("30: as they were, too", x, 0, 1, 2, 3, 4, 4);
    due("30: none", x.copy(0, 5, 1, 3, 0), 0);
    due("30: none from behind the end", x.copy(0, 6, 1, 3, 0), BEYOND);
    due("30: none to behind the end", x.copy(0, 5, 1, 4, 0), BEYOND);
    due("30: too many of the first", x.copy(1, 1, 0, 0, 3), BEYOND);
    due("30: too many for the second", x.copy(0, 0, 1, 1, 3), BEYOND);
    due("30: from -1", x.copy(0, -1, 1, 0, 1), BEYOND);
    due("30: to -1", x.copy(0, 0, 1, -1, 1), BEYOND);
    due("30: n -1", x.copy(0, 1, 1, 1, -1), BEYOND);
    due("30: other bits", x.copy(0, -1, 2, 0, 1), KIND);
    due("30: missing", x.copy(0, 0, 3, 0, 1), MISSING);
    due("30: missing first", x.copy(3, 0, 2, 0, 1), MISSING);
    due("30: no such sheet", x.copy(4, 0, 3, 0, 1), BEYOND);
    due("30: no such other sheet", x.copy(3, 0, 4, 0, 1), BEYOND);
    for (int wild : WILD) {
      due("30: wild sheet", x.copy(wild, 0, 0, 0, 1), BEYOND);
      due("30: wild other", x.copy(0, 0, wild, 0, 1), BEYOND);
      due("30: wild from", x.copy(0, wild, 0, 0, 1), BEYOND);
      due("30: wild to", x.copy(0, 0, 0, wild, 1), BEYOND);
      due("30: wild n", x.copy(0, 1, 0, 1, wild), BEYOND);
    }
    holds("30: nothing changed", x, 0, 1, 2, 3, 4, 4);
  }

  private static void lays() {
    PennyRoad x = new PennyRoad();
    for (int i = 0; i < 5; i++) {
      x.walker(0, 0);
    }
    x.sheet(0, 8, 7);
    fill(x, 0, 9, 10, 0, -1, 3, 4, 5);
    due("31: how many came", x.lays(0), 3);
    int[] reasons = {9, 5, 0, 5, 3};
    for (int i = 0; i < reasons.length; i++) {
      due("31: reason of " + i, x.of(i, 3), reasons[i]);
    }
    x.sheet(1, 64, 1);
    x.write(1, 0, 1L << 32);
    due("31: a long number", x.lays(1), 0);
    due("31: reason as it was", x.of(0, 3), 9);
    x.sheet(1, 64, 0);
    due("31: no numbers", x.lays(1), 0);
    due("31: missing", x.lays(2), MISSING);
    due("31: no such sheet", x.lays(4), BEYOND);
    for (int wild : WILD) {
      due("31: wild sheet", x.lays(wild), BEYOND);
    }
  }

  private static void book() {
    PennyRoad x = new PennyRoad();
    x.walker(0, 0);
    x.walker(0, 6);
    x.sheet(0, 64, 5);
    due("32: of another", x.book(0, 1), 5);
    holds("32: a book of another", x, 0, 0, 0, 6, 6, 6);
    x.set(0, 6, 250);
    due("32: five hours", x.book(0, 0), 5);
    holds("32: a book", x, 0, 250, 250, 250, 250, 262);
    due("32: nothing changes", x.now(0), 0);
    x.sheet(1, 8, 5);
    due("32: of 8 bits", x.book(1, 0), 5);
    due("32: lowest bits", x.write(1, 4, 0), 6);
    x.sheet(2, 16, 40);
    due("32: 40 numbers", x.book(2, 0), 40);
    due("32: the last", x.write(2, 39, 0), 310);
    x.sheet(2, 16, 0);
    due("32: none", x.book(2, 0), 0);
    due("32: missing", x.book(3, 9), MISSING);
    due("32: no such sheet", x.book(4, 0), BEYOND);
    due("32: no such one", x.book(0, 2), BEYOND);
    for (int wild : WILD) {
      due("32: wild sheet", x.book(wild, 0), BEYOND);
      due("32: wild walker", x.book(0, wild), BEYOND);
    }
  }

  private static int readOf(PennyRoad x, int... miles) {
    x.sheet(0, 16, miles.length);
    fill(x, 0, miles);
    return x.read(0, 0);
  }

  private static void read() {
    PennyRoad x = new PennyRoad();
    x.walker(5, 0);
    x.set(0, 4, 50);
    due("33: no numbers", readOf(x), 66);
    due("33: where it is", readOf(x, 0), 66);
    due("33: where it isn't", readOf(x, 1), 0);
    due("33: three miles", readOf(x, 0, 3), 40);
    due("33: two miles", readOf(x, 0, 2), 4);
    due("33: one mile", readOf(x, 0, 1), 22);
    due("33: three and two", readOf(x, 0, 3, 5), 4);
    due("33: no mile", readOf(x, 0, 13), 0);
    x.road(2, 1);
    due("33: two miles in rain", readOf(x, 0, 2), 15);
    x.set(0, 3, 0);
    due("33: three miles without reason", readOf(x, 0, 3), 31);
    due("33: four miles without reason", readOf(x, 0, 4), 10);
    due("33: nothing changes", x.of(0, 4), 50);
    due("33: nor its kind", x.of(0, 0), 5);
    x.sheet(1, 64, 1);
    x.write(1, 0, 1L << 32);
    due("33: a long number", x.read(1, 0), 0);
    due("33: missing", x.read(2, 9), MISSING);
    due("33: no such sheet", x.read(4, 0), BEYOND);
    due("33: no such one", x.read(0, 1), BEYOND);
    for (int wild : WILD) {
      due("33: wild sheet", x.read(wild, 0), BEYOND);
      due("33: wild walker", x.read(0, wild), BEYOND);
    }
  }

  private static void images() {
    PennyRoad x = new PennyRoad();
    due("34: of nothing", x.image(), 1);
    x.walker(1, 3);
    x.walker(2, 4);
    x.road(1, 9);
    x.road(2, 1);
    x.hours(5);
    int[] v = {2, 8, 0, 7, 98, 11, 999998, 1};
    for (int what = 1; what < 8; what++) {
      x.set(1, what, v[what]);
    }
    int fund = x.now(1);
    due("34: image()", x.image(), 1);
    x.feed(0x647279, 3);
    x.sheet(0, 8, 1);
    x.write(0, 0, 4);
    x.hours(9);
    x.turn(1, 5);
    x.walker(3, 0);
    x.road(0, 1);
    x.road(1, 2);
    x.road(2, 0);
    for (int what = 1; what < 8; what++) {
      x.set(1, what, 1);
      x.set(2, what, 1);
    }
    x.of(9, 9);
    for (int i = 0; i < 2; i++) {
      due("35: undo()", x.undo(), 2);
      due("35: hour", x.now(0), 5);
      due("35: fund", x.now(1), fund);
      due("35: penny", x.now(2), 9);
      due("35: rain", x.now(3), 1);
      due("35: walkers", x.count(0), 2);
      for (int what = 0; what < 8; what++) {
        due("35: of(1, " + what + ")", x.of(1, what), v[what]);
      }
      due("35: the tape is not kept", x.count(1), 3);
      due("35: sheets are not kept", x.write(0, 0, 4), 4);
      due("35: findings are not taken back", x.status(0), 1);
      due("35: one more than there was", x.walker(0, 0), 2);
      due("35: nothing of one that is gone", x.of(2, 4) + x.of(2, 5) + x.of(2, 6) + x.of(2, 7), 0);
      x.set(1, 6, 5);
    }
    due("36: something was", x.tear(), 1);
    due("36: nothing is", x.tear(), 0);
    due("35: nothing is kept", x.undo(), NONE);
    due("35: nothing changed", x.count(0), 3);
    due("34: again", x.image(), 1);
    due("35: again", x.undo(), 3);
  }

  private static void count() {
    PennyRoad x = new PennyRoad();
    for (int i = 0; i < 4; i++) {
      x.walker(i, i);
    }
    x.set(1, 2, 0);
    x.set(3, 3, 9);
    x.feed(0, 2);
    due("37: walkers", x.count(0), 4);
    due("37: bytes", x.count(1), 2);
    due("37: up", x.count(2), 3);
    due("37: reasons", x.count(3), 24);
    due("37: count(4)", x.count(4), BEYOND);
    for (int wild : WILD) {
      due("37: wild count", x.count(wild), BEYOND);
    }
  }

  private static void status() {
    PennyRoad x = new PennyRoad();
    x.walker(6, 0);
    x.walker(1, 0);
    x.as(0, 2);
    x.undo();
    x.undo();
    x.lays(0);
    x.sheet(0, 8, -1);
    for (int i = 0; i < 9; i++) {
      x.walker(0, 0);
    }
    x.write(-1, 0, 0);
    Check.tell(x, "no");
    int[] want = {2, 2, 1, 2, 0, 1, 1};
    for (int which = 0; which < 7; which++) {
      due("38: status(" + which + ")", x.status(which), want[which]);
    }
    due("38: all", x.status(-1), 9);
    due("38: status(7)", x.status(7), BEYOND);
    due("38: counted from then on", x.status(0), 3);
    due("38: status(-2)", x.status(-2), BEYOND);
    due("38: wild", x.status(Integer.MIN_VALUE), BEYOND);
    due("38: wild, too", x.status(Integer.MAX_VALUE), BEYOND);
    due("38: all in all", x.status(-1), 13);
  }
}
