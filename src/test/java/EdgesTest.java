/** The promises one by one: each edge that the document names, the last that may be and the first that may not. */
public final class EdgesTest {
  private static final int BEYOND = Check.BEYOND;
  private static final int NONE = Check.NONE;
  private static final int MISSING = Check.MISSING;
  private static final int MILE = 1;
  private static final int UP = 2;
  private static final int REASON = 3;
  private static final int TIRED = 4;
  private static final int WALKED = 5;
  private static final int PURSE = 6;
  private static final int STOPPED = 7;

  public static void main(String[] args) {
    aNewObject();
    roadTellsWhatItWas();
    walkerBehindAnUndo();
    setTouchesOneTrait();
    turnTouchesTheKind();
    asTellsTheReason();
    hoursOneAndTwoHundred();
    hoursToTheLast();
    nowTellsAllTogether();
    onNothingAndTwoHundred();
    emptyAtTheLast();
    comesAtTheLast();
    meetAtTheLast();
    wornAtTheLast();
    stopFewest();
    stopLeast();
    stopAboveNothing();
    pennyGreatest();
    pennyAtTheLast();
    reasonLeast();
    reasonAtTheLast();
    kindOfSeveral();
    kindAtTheLast();
    beginOfSeveral();
    beginAtTheLast();
    richestOfSeveral();
    rivalOnBothSides();
    enoughOnBothSides();
    sheetMadeAnew();
    writeLowestBits();
    copyAsTheyWere();
    copyToTheEnd();
    laysSome();
    bookOfSizes();
    readPairs();
    imagesLatest();
    looksPassTheImageBy();
    undoTakesAllBack();
    countTells();
    statusCountsAll();
    Check.end();
  }

  private static void due(String sentence, long got, long want) {
    Check.due(sentence, got, want);
  }

  private static void row(String sentence, PennyRoad x, int s, long... numbers) {
    for (int i = 0; i < numbers.length; i++) {
      due(sentence + ", number " + i, x.write(s, i, numbers[i]), numbers[i]);
    }
  }

  private static void fill(PennyRoad x, int s, long... numbers) {
    for (int i = 0; i < numbers.length; i++) {
      x.write(s, i, numbers[i]);
    }
  }

  private static void aNewObject() {
    PennyRoad x = new PennyRoad();
    due("1: No WALKERS", x.count(0), 0);
    due("1: THE TAPE is empty", x.count(1), 0);
    due("1: no image is kept", x.tear(), 0);
    due("1: nothing to undo", x.undo(), NONE);
    due("1: a text of nothing", x.text(), -1);
    due("1: HOURS go over nobody", x.hours(200), 1000);
    due("1: one finding by now", x.status(-1), 1);
    PennyRoad other = new PennyRoad();
    x.walker(0, 0);
    x.road(0, 5);
    x.sheet(0, 8, 1);
    x.feed(0, 1);
    x.image();
    due("1: another object is its own, WALKERS", other.count(0), 0);
    due("1: another object is its own, FUND", other.now(1), 1000);
    due("1: another object is its own, HOUR", other.now(0), 0);
    due("1: another object is its own, bytes", other.count(1), 0);
    due("1: another object is its own, sheets", other.lays(0), MISSING);
    due("1: another object is its own, image", other.undo(), NONE);
    due("1: another object is its own, status", other.status(-1), 2);
  }

  private static void roadTellsWhatItWas() {
    PennyRoad x = new PennyRoad();
    int[][] v = {{3, 4, 4, 0}, {3, 4, 4, 0}, {1, 1, 0, 1}};
    int[] was = {1000, 1, 0};
    for (int what = 0; what < 3; what++) {
      for (int value : v[what]) {
        due("2: what it was, " + what, x.road(what, value), was[what]);
        was[what] = value;
        for (int other = 0; other < 3; other++) {
          due("2: only " + what + ", not " + other, x.now(other + 1), was[other]);
        }
      }
    }
  }

  private static void walkerBehindAnUndo() {
    PennyRoad x = new PennyRoad();
    Roads.many(x, 7);
    x.image();
    due("4: the 8th", x.walker(5, 12), 7);
    int[] most = {0, 12, 0, 9, 99, 12, 999999, 1};
    for (int what = 1; what < 8; what++) {
      x.set(7, what, most[what]);
    }
    due("4: FULL", x.walker(0, 0), Check.FULL);
    x.undo();
    due("4: room again", x.walker(1, 3), 7);
    int[] traits = {1, 3, 1, 5, 0, 0, 0, 0};
    for (int what = 0; what < 8; what++) {
      due("4: a new one, nothing of the one before: " + what, x.of(7, what), traits[what]);
    }
    due("4: FULL again", x.walker(0, 0), Check.FULL);
  }

  private static void setTouchesOneTrait() {
    int[] v = {0, 4, 0, 1, 77, 12, 123456, 1};
    for (int what = 1; what < 8; what++) {
      PennyRoad x = Roads.of(3, 7, 1, 8, 22, 3);
      x.walker(3, 7);
      int[] traits = {3, 7, 1, 8, 22, 3, 0, 0};
      due("6: what it was, " + what, x.set(0, what, v[what]), traits[what]);
      traits[what] = v[what];
      int[] other = {3, 7, 1, 5, 0, 0, 0, 0};
      for (int i = 0; i < 8; i++) {
        due("6: set of " + what + ", of " + i, x.of(0, i), traits[i]);
        due("6: set of " + what + ", another's " + i, x.of(1, i), other[i]);
      }
      due("6: set AT, or going, or STOPPED: FUND", x.now(1), 1000);
    }
  }

  private static void turnTouchesTheKind() {
    for (int from = 0; from < 6; from++) {
      for (int to = 0; to < 6; to++) {
        PennyRoad x = Roads.of(from, 7, 0, 8, 22, 3);
        due("7: what it was", x.turn(0, to), from);
        int[] traits = {to, 7, 0, 8, 22, 3, 0, 0};
        for (int i = 0; i < 8; i++) {
          due("7: from " + from + " to " + to + ", of " + i, x.of(0, i), traits[i]);
        }
      }
    }
  }

  private static void asTellsTheReason() {
    int[][] above = {{0}, {0, 1}, {0, 2}, {0, 3}, {0, 1, 4}, {0, 3, 5}};
    for (int kind = 0; kind < 6; kind++) {
      for (int reason : new int[] {0, 9}) {
        PennyRoad x = Roads.of(kind, 0, 1, reason, 0, 0);
        for (int as : above[kind]) {
          due("8: one of " + kind + " as one of " + as, x.as(0, as), reason);
        }
        due("8: no KIND found", x.status(2), 0);
      }
    }
  }

  private static void hoursOneAndTwoHundred() {
    PennyRoad x = new PennyRoad();
    PennyRoad y = new PennyRoad();
    for (int kind = 0; kind < 6; kind++) {
      x.walker(kind, kind);
      y.walker(kind, kind);
    }
    int fund = 0;
    for (int i = 0; i < 200; i++) {
      fund = x.hours(1);
    }
    due("9: 200 HOURS at once as one by one", y.hours(200), fund);
    for (int i = 0; i < 6; i++) {
      for (int what = 0; what < 8; what++) {
        due("9: at once as one by one, " + what + " of " + i, y.of(i, what), x.of(i, what));
      }
    }
    due("9: HOUR", y.now(0), 200);
    due("9: FUND then", y.now(1), fund);
  }

  private static void hoursToTheLast() {
    PennyRoad x = new PennyRoad();
    Roads.pass(x, 99800);
    x.image();
    due("9: HOUR would be 100000", x.hours(200), Check.STATE);
    due("9: HOUR would be 99999", x.hours(199), 1000);
    due("9: HOUR would be 100000 by 1", x.hours(1), Check.STATE);
    due("9: BEYOND ahead of STATE", x.hours(0), BEYOND);
    due("9: HOUR again what was kept", x.undo(), 0);
    due("9: and so there is time again", x.hours(1), 1000);
    due("9: HOUR", x.now(0), 99801);
  }

  private static void nowTellsAllTogether() {
    PennyRoad x = new PennyRoad();
    due("10: PURSES of nobody", x.now(4), 0);
    due("10: WALKED of nobody", x.now(7), 0);
    for (int i = 0; i < 8; i++) {
      x.walker(0, 0);
      x.set(i, PURSE, 999999);
      x.set(i, WALKED, 12);
      x.set(i, STOPPED, 1);
    }
    due("10: PURSES of all together, full", x.now(4), 7999992);
    due("10: WALKED of all together, full", x.now(7), 96);
    due("10: with a REASON, all", x.now(5), 255);
    due("10: STOPPED, all", x.now(6), 255);
    for (int i = 0; i < 8; i++) {
      x.set(i, REASON, 0);
    }
    due("10: with a REASON, none", x.now(5), 0);
    x.set(3, REASON, 1);
    due("10: with a REASON of 1", x.now(5), 8);
    due("10: what 0", x.now(0), 0);
    due("10: what -1", x.now(-1), BEYOND);
    due("10: what 8", x.now(8), BEYOND);
  }

  private static void onNothingAndTwoHundred() {
    PennyRoad x = Roads.of(1, 9, 1, 6, 3, 4);
    x.set(0, PURSE, 50);
    due("11: ON 0 HOURS, MILE", x.on(0, 0, 0), 9);
    due("11: ON 0 HOURS, PURSE", x.on(0, 0, 1), 50);
    due("11: ON 0 HOURS, REASON", x.on(0, 0, 2), 6);
    due("11: ON 1 HOUR, MILE", x.on(0, 1, 0), 12);
    due("11: ON 1 HOUR, PURSE", x.on(0, 1, 1), 59);
    due("11: ON 1 HOUR, REASON", x.on(0, 1, 2), 6);
    due("12: ON 0 HOURS, FUND", x.fund(0), 1000);
    due("12: ON 1 HOUR, FUND", x.fund(1), 991);
    int purse = x.on(0, 200, 1);
    int fund = x.fund(200);
    int mile = x.on(0, 200, 0);
    x.hours(200);
    due("11: ON 200 HOURS, PURSE", purse, x.of(0, PURSE));
    due("11: ON 200 HOURS, MILE", mile, x.of(0, MILE));
    due("12: ON 200 HOURS, FUND", fund, x.now(1));
    // A LAME one from MILE 4 is AT a HATCH in the HOURS 8, 20, .. 200: 12, and 16 times 18.
    PennyRoad last = Roads.of(3, 4, 1, 5, 0, 0);
    due("11: ON 199 HOURS, PURSE", last.on(0, 199, 1), 12 + 15 * 18);
    due("11: ON 200 HOURS, just PAID", last.on(0, 200, 1), 12 + 16 * 18);
    due("11: ON 200 HOURS, AT a HATCH", last.on(0, 200, 0), 12);
    due("12: ON 199 HOURS, FUND", last.fund(199), 1000 - 282);
    due("12: ON 200 HOURS, FUND", last.fund(200), 1000 - 300);
    due("11: n 201", last.on(0, 201, 0), BEYOND);
    due("12: n 201", last.fund(201), BEYOND);
  }

  private static void emptyAtTheLast() {
    PennyRoad x = Roads.of(3, 4, 1, 5, 0, 0);
    x.road(0, 300);
    due("13: in 200 HOURS", x.empty(), 200);
    x.road(0, 301);
    due("13: 1 is left", x.empty(), NONE);
    PennyRoad y = Roads.of(3, 3, 1, 5, 0, 0);
    // From MILE 3 it is AT a HATCH in the HOURS 9, 21, .. 201: 13, and 16 times 18.
    y.road(0, 301);
    due("13: in 201 HOURS", y.empty(), NONE);
    y.hours(1);
    due("13: in 200 HOURS of it", y.empty(), 200);
    y.road(0, 1);
    due("13: in 8 HOURS", y.empty(), 8);
    y.road(0, 0);
    due("13: in 0 HOURS", y.empty(), 0);
    due("13: nobody takes it", new PennyRoad().empty(), NONE);
  }

  private static PennyRoad crowd(int rain, int[][] walkers) {
    PennyRoad x = new PennyRoad();
    x.road(2, rain);
    for (int[] w : walkers) {
      Roads.add(x, w[0], w[1], w[2], w[3], w[4], 0);
    }
    return x;
  }

  private static void comesAtTheLast() {
    // Found by a search, as LOVERS' ways are long to work out; that it is so is seen HOUR by HOUR.
    PennyRoad x = crowd(0, new int[][] {{2, 3, 0, 2, 9}, {4, 8, 1, 4, 6}, {5, 9, 1, 5, 10}});
    due("14: in 201 HOURS", x.comes(0, 1), NONE);
    x.hours(1);
    due("14: in 200 HOURS", x.comes(0, 1), 200);
    x.hours(200);
    due("14: it is AT the MILE", x.of(0, MILE), 1);
    due("14: in 0 HOURS", x.comes(0, 1), 0);
    PennyRoad stopped = Roads.of(0, 5, 1, 5, 0, 0);
    stopped.set(0, STOPPED, 1);
    due("14: STOPPED, where it is", stopped.comes(0, 5), 0);
    due("14: STOPPED, elsewhere", stopped.comes(0, 6), NONE);
  }

  private static void meetAtTheLast() {
    PennyRoad x = crowd(0, new int[][] {{2, 5, 1, 3, 5}, {3, 3, 1, 6, 0}, {1, 7, 1, 1, 1}, {4, 5, 0, 0, 3}});
    due("15: in 201 HOURS", x.meet(0, 1), NONE);
    due("15: in 201 HOURS, the other way round", x.meet(1, 0), NONE);
    x.hours(1);
    due("15: in 200 HOURS", x.meet(0, 1), 200);
    due("15: in 200 HOURS, the other way round", x.meet(1, 0), 200);
    x.hours(200);
    due("15: two AT one MILE", x.of(0, MILE), x.of(1, MILE));
    due("15: in 0 HOURS", x.meet(0, 1), 0);
    // They go past each other between two MILES: that is no meeting.
    PennyRoad past = Roads.of(3, 4, 1, 5, 0, 0);
    Roads.add(past, 3, 5, 0, 5, 0, 0);
    due("15: AT one MILE, not between", past.meet(0, 1), NONE);
    past.set(1, MILE, 6);
    due("15: in 1 HOUR", past.meet(0, 1), 1);
  }

  private static void wornAtTheLast() {
    PennyRoad x = Roads.of(0, 12, 1, 1, 0, 0);
    due("16: in 1 HOUR", x.worn(0), 1);
    x.set(0, REASON, 0);
    due("16: in 0 HOURS", x.worn(0), 0);
    x.set(0, REASON, 9);
    due("16: 9 times", x.worn(0), 1 + 8 * 4);
    x.set(0, STOPPED, 1);
    due("16: STOPPED", x.worn(0), NONE);
    due("16: a LAME one", Roads.of(3, 12, 1, 1, 0, 0).worn(0), NONE);
    due("16: a PILGRIM", Roads.of(5, 12, 1, 1, 0, 0).worn(0), NONE);
    // Those that WEAR go from HATCH to HATCH in 6 HOURS at most: none has a REASON for as long as 200 HOURS.
    PennyRoad late = Roads.of(2, 9, 1, 6, 4, 0);
    Roads.add(late, 1, 0, 1, 9, 9, 0);
    due("16: one of the longest", late.worn(1), 55);
    due("16: one HOUR before", late.on(1, 54, 2), 1);
    due("16: then", late.on(1, 55, 2), 0);
    PennyRoad poor = Roads.of(0, 12, 1, 1, 0, 0);
    poor.road(0, 0);
    due("16: by an empty FUND, too", poor.worn(0), 1);
  }

  private static PennyRoad payees(int fund, int... walked) {
    PennyRoad x = new PennyRoad();
    for (int w : walked) {
      Roads.arriving(x, 0, w);
    }
    x.road(0, fund);
    return x;
  }

  private static void stopFewest() {
    due("17: none must be", payees(37, 1, 2, 3, 4, 5, 6, 7, 8).stop(1), 0);
    due("17: one, the least of them", payees(36, 1, 2, 3, 4, 5, 6, 7, 8).stop(1), 1);
    due("17: one, that is enough", payees(29, 1, 2, 3, 4, 5, 6, 7, 8).stop(1), 128);
    due("17: two, as one isn't enough: 4 and 5", payees(28, 1, 2, 3, 4, 5, 6, 7, 8).stop(1), 8 + 16);
    due("17: seven", payees(2, 1, 2, 3, 4, 5, 6, 7, 8).stop(1), 254);
    due("17: all", payees(1, 1, 2, 3, 4, 5, 6, 7, 8).stop(1), 255);
    due("17: not even with all", payees(0, 1, 2, 3, 4, 5, 6, 7, 8).stop(1), NONE);
    due("17: the last alone", payees(29, 1, 1, 1, 1, 1, 1, 1, 12).stop(1), 0);
    due("17: the last alone, by number 7", payees(12, 1, 1, 1, 1, 1, 1, 1, 12).stop(1), 128);
  }

  private static void stopLeast() {
    due("17: of several the least, one", payees(16, 4, 4, 4, 4).stop(1), 1);
    due("17: of several the least, two", payees(12, 4, 4, 4, 4).stop(1), 3);
    due("17: of several the least, three", payees(8, 4, 4, 4, 4).stop(1), 7);
    due("17: fewest, though the number is greater", payees(5, 2, 2, 4).stop(1), 4);
    PennyRoad x = payees(12, 4, 4, 4, 4);
    x.set(0, STOPPED, 1);
    due("17: of those that aren't STOPPED", x.stop(1), 2);
    x.set(1, STOPPED, 1);
    due("17: those that are STOPPED are enough", x.stop(1), 0);
    x.set(2, STOPPED, 1);
    x.set(3, STOPPED, 1);
    due("17: all are STOPPED", x.stop(60), 0);
    x.road(0, 0);
    due("17: all are STOPPED, and there is none", x.stop(60), NONE);
    due("17: nobody is there", new PennyRoad().stop(60), 0);
    PennyRoad none = new PennyRoad();
    none.road(0, 0);
    due("17: nobody is there, nor a FUND", none.stop(1), NONE);
  }

  private static void stopAboveNothing() {
    // A LAME one from MILE 0 is PAID 18 in the HOURS 12, 24, 36, 48 and 60.
    PennyRoad x = Roads.of(3, 0, 1, 5, 0, 0);
    x.road(0, 90);
    due("17: n 59", x.stop(59), 0);
    due("17: n 60, FUND is 0", x.stop(60), 1);
    x.road(0, 91);
    due("17: n 60, FUND is 1", x.stop(60), 0);
    due("17: n 61", x.stop(61), BEYOND);
    due("17: n 0", x.stop(0), BEYOND);
    due("17: n 1", x.stop(1), 0);
  }

  private static void pennyGreatest() {
    PennyRoad x = payees(240, 12);
    due("18: 20 takes all, and 0 is 0 or more", x.penny(1, 0), 20);
    due("18: 1 left by 19", x.penny(1, 1), 19);
    due("18: v is just what is left", x.penny(1, 12), 19);
    due("18: v is 1 more", x.penny(1, 13), 18);
    due("18: v by a PENNY of 1", x.penny(1, 228), 1);
    due("18: v by a PENNY of 0", x.penny(1, 229), 0);
    due("18: v is the FUND", x.penny(1, 240), 0);
    due("18: v is 1 above the FUND", x.penny(1, 241), NONE);
    x.road(0, 999999);
    due("18: v 999999", x.penny(1, 999999), 0);
    x.set(0, STOPPED, 1);
    due("18: v 999999, nobody is PAID", x.penny(100, 999999), 20);
    due("18: v 1000000", x.penny(1, 1000000), BEYOND);
    due("18: v -1", x.penny(1, -1), BEYOND);
    x.road(0, 999998);
    due("18: v 999999 of 999998", x.penny(1, 999999), NONE);
    PennyRoad pedlar = Roads.of(1, 12, 1, 5, 0, 0);
    due("18: not even a PENNY of 0", pedlar.penny(1, 999), NONE);
    due("18: all the same by any PENNY", pedlar.penny(1, 998), 20);
    pedlar.road(1, 7);
    due("18: whatever PENNY there is", pedlar.penny(1, 998), 20);
    due("18: PENNY as it was", pedlar.now(2), 7);
  }

  private static void pennyAtTheLast() {
    // A LAME one from MILE 8 is PAID in the HOURS 4, 16, 28, .. 100.
    PennyRoad x = Roads.of(3, 8, 1, 5, 0, 0);
    x.road(0, 9999);
    x.road(1, 0);
    // By a PENNY of p: 4p + 2, and 8 times 12p + 6: 100p + 50 in 100 HOURS, 88p + 44 in 99.
    due("18: n 100", x.penny(100, 9999 - 1050), 10);
    due("18: n 99", x.penny(99, 9999 - 1050), 11);
    due("18: n 101", x.penny(101, 0), BEYOND);
    due("18: n 0", x.penny(0, 0), BEYOND);
  }

  private static void reasonLeast() {
    PennyRoad x = Roads.of(0, 0, 1, 5, 0, 0);
    x.set(0, PURSE, 3);
    due("19: v 0", x.reason(0, 100, 0), 0);
    due("19: PURSE is v already", x.reason(0, 100, 3), 0);
    for (int reason = 1; reason <= 9; reason++) {
      due("19: v just so by " + reason, x.reason(0, 100, 3 + 12 * reason), reason);
      due("19: v 1 more than by " + (reason - 1), x.reason(0, 100, 4 + 12 * (reason - 1)), reason);
    }
    due("19: v 1 more than by 9", x.reason(0, 100, 4 + 12 * 9), NONE);
    x.set(0, PURSE, 999999);
    due("19: v 999999", x.reason(0, 1, 999999), 0);
    x.set(0, PURSE, 999990);
    due("19: v 999999 by 1", x.reason(0, 4, 999999), 1);
    due("19: v 1000000", x.reason(0, 1, 1000000), BEYOND);
    due("19: v -1", x.reason(0, 1, -1), BEYOND);
    due("19: REASON as it was", x.of(0, REASON), 5);
  }

  private static void reasonAtTheLast() {
    PennyRoad x = Roads.of(3, 8, 1, 0, 0, 0);
    due("19: n 100", x.reason(0, 100, 6 + 8 * 18), 1);
    due("19: n 99", x.reason(0, 99, 6 + 8 * 18), NONE);
    due("19: n 99, once fewer", x.reason(0, 99, 6 + 7 * 18), 1);
    due("19: n 101", x.reason(0, 101, 0), BEYOND);
    due("19: n 1", Roads.of(0, 12, 1, 0, 0, 5).reason(0, 1, 5), 1);
    due("19: n 0", x.reason(0, 0, 0), BEYOND);
  }

  private static void kindOfSeveral() {
    // AT the HATCH with WALKED w: w, w + 2, 2w, w and half of w, w + 2, 0.
    int[] walked = {0, 1, 2, 3, 12};
    int[] kinds = {1, 1, 1, 2, 2};
    for (int i = 0; i < walked.length; i++) {
      PennyRoad x = Roads.of(5, 12, 1, 5, 0, walked[i]);
      due("20: most, of several the least, w " + walked[i], x.kind(0, 1), kinds[i]);
      due("20: KIND as it was", x.of(0, 0), 5);
      x.road(0, 0);
      due("20: by an empty FUND all alike", x.kind(0, 1), 0);
      x.road(0, 1000);
      x.set(0, STOPPED, 1);
      due("20: STOPPED, all alike", x.kind(0, 1), 0);
      x.set(0, STOPPED, 0);
      x.set(0, PURSE, 999999);
      due("20: PURSE is full, all alike", x.kind(0, 1), 0);
    }
    // One is left of the FUND: a WALKER takes it as well as any.
    PennyRoad y = Roads.of(4, 12, 1, 5, 0, 1);
    y.road(0, 1);
    due("20: of several the least", y.kind(0, 1), 0);
    // Only a CHEAT without a REASON is quicker, but it isn't PAID.
    due("20: without a REASON", Roads.of(4, 0, 1, 0, 0, 0).kind(0, 100), 0);
  }

  private static void kindAtTheLast() {
    // LAME: PAID 6 and 18 each 12 HOURS, by 100 HOURS 150; LOVER by REASON 6 from MILE 8: 8, and 5 times 24: 128.
    PennyRoad x = Roads.of(0, 8, 1, 6, 0, 0);
    due("20: n 100", x.kind(0, 100), 3);
    due("20: n 99", x.kind(0, 99), 3);
    due("20: n 88, 132 is more than 128", x.kind(0, 88), 3);
    due("20: n 87, 114 isn't", x.kind(0, 87), 2);
    due("20: n 1, nobody is PAID", x.kind(0, 1), 0);
    due("20: n 0", x.kind(0, 0), BEYOND);
    due("20: n 101", x.kind(0, 101), BEYOND);
    // LOVER from MILE 8 by 9: 8, and 8 times 24: 200; by 7: 152; by 6: 128.
    x.set(0, REASON, 7);
    due("20: n 100, 150 isn't more than 152", x.kind(0, 100), 2);
  }

  private static void beginOfSeveral() {
    PennyRoad x = Roads.of(0, 5, 1, 5, 0, 12);
    due("21: n 1", x.begin(0, 1), 9);
    due("21: n 2", x.begin(0, 2), 6);
    due("21: n 3", x.begin(0, 3), 3);
    due("21: n 4", x.begin(0, 4), 0);
    due("21: MILE as it was", x.of(0, MILE), 5);
    due("21: WALKED as it was", x.of(0, WALKED), 12);
    x.set(0, UP, 0);
    due("21: down, n 1", x.begin(0, 1), 3);
    due("21: down, n 3", x.begin(0, 3), 9);
    due("21: down, n 4", x.begin(0, 4), 12);
    x.road(0, 1);
    due("21: of several the least, down", x.begin(0, 1), 1);
    x.set(0, UP, 1);
    due("21: of several the least, up", x.begin(0, 1), 9);
    x.set(0, PURSE, 999999);
    due("21: PURSE is full, all alike", x.begin(0, 1), 0);
    x.set(0, PURSE, 0);
    x.set(0, STOPPED, 1);
    due("21: STOPPED, all alike", x.begin(0, 100), 0);
    PennyRoad pedlar = Roads.of(1, 5, 0, 5, 0, 0);
    pedlar.road(0, 2);
    due("21: WALKED 0 there, of several the least", pedlar.begin(0, 1), 0);
    // From HOUR 1 a PEDLAR would be PAID twice by its last REASON, had it a mile more to go: there is none.
    PennyRoad ends = new PennyRoad();
    ends.hours(1);
    Roads.add(ends, 1, 5, 0, 1, 0, 0);
    due("21: no MILE above 12", ends.begin(0, 20), 12);
    ends.set(0, UP, 1);
    due("21: no MILE below 0", ends.begin(0, 20), 0);
  }

  private static void beginAtTheLast() {
    // LAME, by REASON 5, UP: from MILE m it is PAID in the HOUR 12 - m and each 12 HOURS on; in 100 HOURS 9 times
    // from MILE 8, where the first time is worth 6, and from above it less; from MILE 7 8 times and 7.
    PennyRoad x = Roads.of(3, 0, 1, 5, 0, 0);
    due("21: n 100", x.begin(0, 100), 8);
    due("21: n 99", x.begin(0, 99), 9);
    due("21: n 101", x.begin(0, 101), BEYOND);
    due("21: n 0", x.begin(0, 0), BEYOND);
  }

  private static void richestOfSeveral() {
    PennyRoad x = new PennyRoad();
    due("22: nobody is there, n 0", x.richest(0), NONE);
    due("22: nobody is there, n 200", x.richest(200), NONE);
    due("22: BEYOND ahead of NONE, -1", x.richest(-1), BEYOND);
    due("22: BEYOND ahead of NONE, 201", x.richest(201), BEYOND);
    Roads.many(x, 8);
    due("22: of several the least, all", x.richest(0), 0);
    for (int i = 7; i > 0; i--) {
      x.set(i, PURSE, 5);
      due("22: of several the least, from " + i, x.richest(0), i);
    }
    for (int i = 1; i < 8; i++) {
      x.set(i, PURSE, 999);
      due("22: the most of all, " + i, x.richest(200), i);
      x.set(i, PURSE, 0);
    }
    PennyRoad one = Roads.of(5, 0, 1, 5, 0, 0);
    due("22: one alone, with nothing", one.richest(200), 0);
    // A LAME one from MILE 4 is PAID in the HOUR 200 last: 300 then, 282 the HOUR before.
    PennyRoad last = Roads.of(5, 0, 1, 5, 0, 0);
    last.set(0, PURSE, 299);
    Roads.add(last, 3, 4, 1, 5, 0, 0);
    due("22: n 199", last.richest(199), 0);
    due("22: n 200", last.richest(200), 1);
    due("22: n 201", last.richest(201), BEYOND);
  }

  private static void rivalOnBothSides() {
    PennyRoad x = payees(9, 5, 5);
    due("23: more by 1", x.rival(1, 0, 1), 1);
    x.road(0, 10);
    due("23: enough for both", x.rival(1, 0, 1), 0);
    x.road(0, 5);
    due("23: more by all", x.rival(1, 0, 1), 5);
    due("23: one ahead loses nothing", x.rival(0, 1, 1), 0);
    due("23: STOPPED as it was", x.now(6), 0);
    PennyRoad lover = Roads.of(0, 5, 1, 5, 0, 0);
    lover.walker(2, 8);
    due("23: below 0", lover.rival(1, 0, 1), -8);
    // Two LAME ones from MILE 8 are PAID in the HOURS 4, 16, .. 100, when there is enough for the first alone no more.
    PennyRoad last = Roads.of(3, 8, 1, 5, 0, 0);
    Roads.add(last, 3, 8, 1, 5, 0, 0);
    last.road(0, 2 * 6 + 2 * 7 * 18);
    due("23: n 99", last.rival(1, 0, 99), 0);
    due("23: n 100", last.rival(1, 0, 100), 18);
    due("23: n 101", last.rival(1, 0, 101), BEYOND);
    due("23: n 0", last.rival(1, 0, 0), BEYOND);
    due("23: n 1", last.rival(1, 0, 1), 0);
    due("23: one and the same", last.rival(1, 1, 1), BEYOND);
    last.set(1, STOPPED, 1);
    due("23: one that is STOPPED itself", last.rival(1, 0, 100), 0);
  }

  private static void enoughOnBothSides() {
    due("24: nobody, and 0 isn't above 0", new PennyRoad().enough(1), 1);
    due("24: one", payees(0, 12).enough(1), 13);
    due("24: whatever FUND there is", payees(999999, 12).enough(1), 13);
    // PENNY 9: four LOVERS 864; PEDLARS 2 and 9 a mile, WALKERS 9 a mile.
    PennyRoad x = new PennyRoad();
    x.road(1, 9);
    for (int i = 0; i < 4; i++) {
      Roads.arriving(x, 2, 12);
    }
    int[] walked = {12, 2, 0, 0};
    for (int w : walked) {
      Roads.arriving(x, 1, w);
    }
    due("24: 864, 110, 20, 2 and 2 are 998", x.enough(1), 999);
    int[] asWalkers = {12, 3, 0, 0};
    for (int i = 0; i < 4; i++) {
      x.turn(4 + i, 0);
      x.set(4 + i, WALKED, asWalkers[i]);
    }
    due("24: 864, 108 and 27 are 999", x.enough(1), NONE);
    x.turn(7, 1);
    due("24: and 2 more", x.enough(1), NONE);
    PennyRoad y = Roads.of(3, 0, 1, 5, 0, 0);
    due("24: n 59", y.enough(59), 73);
    due("24: n 60", y.enough(60), 91);
    due("24: n 61", y.enough(61), BEYOND);
    due("24: n 0", y.enough(0), BEYOND);
    due("24: FUND as it was", y.now(1), 1000);
  }

  private static void sheetMadeAnew() {
    for (int bits : new int[] {8, 16, 64}) {
      for (int n : new int[] {0, 1, 39, 40}) {
        PennyRoad x = new PennyRoad();
        due("28: n of " + bits, x.sheet(2, bits, n), n);
        due("28: the last number of " + n, n == 0 ? 0 : x.write(2, n - 1, 1), 0);
        due("28: one behind " + n, x.write(2, n, 1), BEYOND);
        due("28: the others are MISSING", x.write(1, 0, 1), MISSING);
        due("28: the others are MISSING, too", x.write(3, 0, 1), MISSING);
      }
    }
    PennyRoad y = new PennyRoad();
    y.sheet(0, 64, 40);
    for (int i = 0; i < 40; i++) {
      y.write(0, i, i + 1);
    }
    due("28: fewer", y.sheet(0, 64, 3), 3);
    due("28: again as many", y.sheet(0, 64, 40), 40);
    for (int i = 0; i < 40; i++) {
      due("28: all 0, number " + i, y.write(0, i, i + 1), 0);
    }
    due("28: bits 0: it is MISSING: 0", y.sheet(0, 0, 40), 0);
    due("28: MISSING", y.write(0, 0, 1), MISSING);
    due("28: MISSING still", y.sheet(0, 0, 0), 0);
    y.sheet(0, 64, 40);
    for (int i = 0; i < 40; i++) {
      due("28: all 0 behind MISSING, number " + i, y.write(0, i, 0), 0);
    }
    int[] others = {-1, 1, 7, 9, 15, 17, 32, 63, 65};
    for (int bits : others) {
      due("28: other bits " + bits, y.sheet(1, bits, 1), BEYOND);
      due("28: other bits ahead of SIZE " + bits, y.sheet(1, bits, -1), BEYOND);
    }
    due("28: none of them stands", y.lays(1), MISSING);
  }

  private static void writeLowestBits() {
    long[] v = {0, 1, 127, 128, 255, 256, 32767, 32768, 65535, 65536, -1, -128, -129, -32768, -32769,
        1L << 32, Long.MAX_VALUE, Long.MIN_VALUE};
    long[] of8 = {0, 1, 127, -128, -1, 0, -1, 0, -1, 0, -1, -128, 127, 0, -1, 0, -1, 0};
    long[] of16 = {0, 1, 127, 128, 255, 256, 32767, -32768, -1, 0, -1, -128, -129, -32768, 32767, 0, -1, 0};
    PennyRoad x = new PennyRoad();
    x.sheet(0, 8, 40);
    x.sheet(1, 16, 40);
    x.sheet(2, 64, 40);
    for (int i = 0; i < v.length; i++) {
      for (int s = 0; s < 3; s++) {
        x.write(s, 39, v[i]);
      }
      due("29: 8 lowest bits of " + v[i], x.write(0, 39, 0), of8[i]);
      due("29: 16 lowest bits of " + v[i], x.write(1, 39, 0), of16[i]);
      due("29: 64 lowest bits of " + v[i], x.write(2, 39, 0), v[i]);
    }
    due("29: only the one number", x.write(2, 38, 0), 0);
  }

  private static void copyAsTheyWere() {
    int[][] ways = {{0, 0, 5}, {0, 1, 4}, {1, 0, 4}, {0, 2, 3}, {3, 0, 2}, {0, 4, 1}, {4, 0, 1}, {2, 2, 0}};
    long[][] rows = {{1, 2, 3, 4, 5}, {1, 1, 2, 3, 4}, {2, 3, 4, 5, 5}, {1, 2, 1, 2, 3}, {4, 5, 3, 4, 5},
        {1, 2, 3, 4, 1}, {5, 2, 3, 4, 5}, {1, 2, 3, 4, 5}};
    for (int i = 0; i < ways.length; i++) {
      PennyRoad x = new PennyRoad();
      x.sheet(0, 64, 5);
      fill(x, 0, 1, 2, 3, 4, 5);
      due("30: n, to its own", x.copy(0, ways[i][0], 0, ways[i][1], ways[i][2]), ways[i][2]);
      row("30: as they all were, way " + i, x, 0, rows[i]);
    }
  }

  private static void copyToTheEnd() {
    PennyRoad x = new PennyRoad();
    x.sheet(0, 8, 3);
    x.sheet(1, 8, 40);
    fill(x, 0, 7, 8, 9);
    due("30: all of it to the very end", x.copy(0, 0, 1, 37, 3), 3);
    due("30: one too far", x.copy(0, 0, 1, 38, 3), BEYOND);
    due("30: one too many of it", x.copy(0, 0, 1, 0, 4), BEYOND);
    due("30: one too many for it", x.copy(1, 0, 0, 0, 4), BEYOND);
    due("30: the last one", x.copy(0, 2, 1, 0, 1), 1);
    due("30: behind the last one", x.copy(0, 3, 1, 0, 1), BEYOND);
    due("30: none, AT the ends", x.copy(0, 3, 1, 40, 0), 0);
    due("30: none, behind the end of the first", x.copy(0, 4, 1, 40, 0), BEYOND);
    due("30: none, behind the end of the second", x.copy(0, 3, 1, 41, 0), BEYOND);
    due("30: from + n wraps round", x.copy(0, Integer.MAX_VALUE, 1, 0, Integer.MAX_VALUE), BEYOND);
    due("30: to + n wraps round", x.copy(0, 0, 1, Integer.MAX_VALUE, 3), BEYOND);
    due("30: n below 0, of the least", x.copy(0, 0, 1, 0, Integer.MIN_VALUE), BEYOND);
    row("30: the source stays", x, 0, 7, 8, 9);
    due("30: came to the first", x.write(1, 0, 0), 9);
    due("30: not to the second", x.write(1, 1, 0), 0);
    due("30: not to one ahead", x.write(1, 36, 0), 0);
    due("30: came to 37", x.write(1, 37, 0), 7);
    due("30: came to 38", x.write(1, 38, 0), 8);
    due("30: came to 39", x.write(1, 39, 0), 9);
    x.sheet(2, 64, 1);
    x.sheet(3, 64, 1);
    x.write(2, 0, Long.MIN_VALUE);
    due("30: of 64 bits", x.copy(2, 0, 3, 0, 1), 1);
    due("30: all of its bits", x.write(3, 0, 0), Long.MIN_VALUE);
    x.sheet(2, 16, 1);
    due("30: not of as many bits, 16 and 64", x.copy(2, 0, 3, 0, 1), Check.KIND);
    due("30: not of as many bits, 8 and 16", x.copy(0, 0, 2, 0, 1), Check.KIND);
    due("30: not of as many bits, 64 and 8", x.copy(3, 0, 0, 0, 1), Check.KIND);
  }

  private static void laysSome() {
    PennyRoad x = new PennyRoad();
    x.sheet(0, 64, 40);
    due("31: nobody is there", x.lays(0), 0);
    Roads.many(x, 8);
    due("31: 8 of 40", x.lays(0), 8);
    due("31: no REASON for anybody", x.now(5), 0);
    fill(x, 0, -1, 0, 9, 10, 4294967299L, Long.MIN_VALUE, 256, 7, 3);
    for (int i = 0; i < 8; i++) {
      x.set(i, REASON, 5);
    }
    due("31: those that aren't 0 to 9 are left out", x.lays(0), 3);
    int[] reasons = {5, 0, 9, 5, 5, 5, 5, 7};
    for (int i = 0; i < 8; i++) {
      due("31: REASON of " + i, x.of(i, REASON), reasons[i]);
    }
    x.sheet(1, 16, 2);
    fill(x, 1, 1, 2);
    due("31: fewer numbers than WALKERS", x.lays(1), 2);
    due("31: the first", x.of(0, REASON), 1);
    due("31: the last that has a number", x.of(1, REASON), 2);
    due("31: the first that has none", x.of(2, REASON), 9);
    x.sheet(1, 8, 0);
    due("31: no numbers", x.lays(1), 0);
    x.sheet(1, 8, 1);
    x.write(1, 0, 256 + 4);
    due("31: by its lowest bits", x.lays(1), 1);
    due("31: REASON by its lowest bits", x.of(0, REASON), 4);
  }

  private static void bookOfSizes() {
    // A LAME one from MILE 9 is PAID 4 in the HOUR 3, and 18 in 15, 27 and 39.
    PennyRoad x = Roads.of(3, 9, 1, 5, 0, 0);
    x.walker(0, 0);
    for (int n : new int[] {0, 1, 4, 40}) {
      x.sheet(0, 64, n);
      due("32: as many as it has numbers", x.book(0, 0), n);
    }
    int[] hours = {0, 2, 3, 14, 15, 26, 27, 38, 39};
    int[] purses = {0, 0, 4, 4, 22, 22, 40, 40, 58};
    for (int i = 0; i < hours.length; i++) {
      due("32: PURSE ON " + hours[i], x.write(0, hours[i], 0), purses[i]);
    }
    x.set(0, PURSE, 999999);
    x.sheet(1, 8, 1);
    x.sheet(2, 16, 1);
    x.book(1, 0);
    x.book(2, 0);
    // 999999 is 15 times 65536, and 16959; and 66 times 256, and 63, of these.
    due("32: 8 lowest bits", x.write(1, 0, 0), 63);
    due("32: 16 lowest bits", x.write(2, 0, 0), 16959);
    due("32: nothing else changes, PURSE", x.of(0, PURSE), 999999);
    due("32: nothing else changes, HOUR", x.now(0), 0);
    due("32: nothing else changes, FUND", x.now(1), 1000);
    x.sheet(1, 8, 0);
    due("32: no such one, of no numbers", x.book(1, 2), BEYOND);
    due("32: the last one, of no numbers", x.book(1, 1), 0);
  }

  private static int readOf(PennyRoad x, long... miles) {
    x.sheet(0, 64, miles.length);
    fill(x, 0, miles);
    return x.read(0, 0);
  }

  private static void readPairs() {
    PennyRoad x = Roads.of(0, 0, 1, 5, 99, 0);
    due("33: no numbers, 6 KINDS by 11", readOf(x), 66);
    due("33: where it is", readOf(x, 0), 66);
    due("33: where it isn't", readOf(x, 12), 0);
    due("33: 3 miles: 4 KINDS, TIRED 0 to 9", readOf(x, 0, 3), 40);
    due("33: 2 miles: 4 KINDS, TIRED 10", readOf(x, 0, 2), 4);
    due("33: 1 mile: 2 KINDS, TIRED 0 to 10", readOf(x, 0, 1), 22);
    due("33: 3, then 3: 4 KINDS, TIRED 0 to 8", readOf(x, 0, 3, 6), 36);
    due("33: 3, then 2: 4 KINDS, TIRED 9", readOf(x, 0, 3, 5), 4);
    due("33: 2, then 2: TIRED 10", readOf(x, 0, 2, 4), 4);
    due("33: just so, but for the last", readOf(x, 0, 3, 6, 9, 12, 9, 6, 4), 0);
    due("33: just so to the last", readOf(x, 0, 3, 6, 9, 12, 9, 6, 3), 36);
    due("33: not a MILE", readOf(x, 0, 4294967299L), 0);
    due("33: below 0", readOf(x, -1), 0);
    x.set(0, STOPPED, 1);
    due("33: STOPPED", readOf(x, 0, 0, 0), 66);
    due("33: STOPPED, elsewhere", readOf(x, 0, 0, 1), 0);
    x.sheet(1, 8, 40);
    due("33: 40 numbers", x.read(1, 0), 66);
    x.write(1, 39, 1);
    due("33: 40 numbers, the last one wrong", x.read(1, 0), 0);
    due("33: TIRED as it was", x.of(0, TIRED), 99);
    due("33: KIND as it was", x.of(0, 0), 0);
    PennyRoad y = Roads.of(0, 0, 1, 0, 0, 0);
    due("33: a CHEAT without a REASON", readOf(y, 0, 4), 10);
    y.walker(0, 0);
    due("33: and a LOVER with another one", readOf(y, 0, 4), 20);
  }

  private static void imagesLatest() {
    PennyRoad x = new PennyRoad();
    due("34: nothing yet", x.image(), 1);
    x.walker(0, 0);
    due("34: once more", x.image(), 1);
    x.walker(0, 0);
    due("35: what was kept latest", x.undo(), 1);
    due("35: which stays", x.undo(), 1);
    x.walker(0, 0);
    due("35: which stays, still", x.undo(), 1);
    due("36: something was", x.tear(), 1);
    due("36: nothing was", x.tear(), 0);
    due("35: not even the one before", x.undo(), NONE);
    due("35: nothing changes", x.count(0), 1);
    due("34: after tear()", x.image(), 1);
    due("35: after tear()", x.undo(), 1);
    due("36: something again", x.tear(), 1);
    PennyRoad y = new PennyRoad();
    y.image();
    Roads.many(y, 8);
    due("35: to nobody", y.undo(), 0);
    due("35: nobody is there", y.of(0, 0), BEYOND);
    Roads.many(y, 8);
    y.image();
    y.undo();
    due("35: to all 8", y.undo(), 8);
  }

  private static void looksPassTheImageBy() {
    PennyRoad plain = new PennyRoad();
    PennyRoad keeping = new PennyRoad();
    // What is kept is as unlike what there is as can be: nobody, no FUND, RAIN and the greatest PENNY.
    keeping.road(0, 0);
    keeping.road(1, 20);
    keeping.road(2, 1);
    keeping.image();
    for (PennyRoad x : new PennyRoad[] {plain, keeping}) {
      x.road(0, 30);
      x.road(1, 1);
      x.road(2, 0);
      Roads.arriving(x, 0, 12);
      Roads.arriving(x, 1, 12);
      Roads.arriving(x, 2, 12);
      x.sheet(0, 64, 40);
      x.sheet(1, 8, 2);
      x.write(1, 0, 12);
      x.write(1, 1, 12);
    }
    due("12: FUND by hand: 30 less 12, 14 and what is left", keeping.fund(1), 0);
    due("17: whom to stop by hand: 12 and 14 leave 4", keeping.stop(1), 4);
    long[] alone = lookAll(plain);
    long[] beside = lookAll(keeping);
    for (int i = 0; i < alone.length; i++) {
      due("34: a look passes what is kept by, look " + i, beside[i], alone[i]);
    }
    due("35: and what is kept stays as it was", keeping.undo(), 0);
    due("35: FUND of what is kept", keeping.now(1), 0);
    due("35: PENNY of what is kept", keeping.now(2), 20);
    due("35: RAIN of what is kept", keeping.now(3), 1);
  }

  private static long[] lookAll(PennyRoad x) {
    return new long[] {
      x.on(0, 9, 0), x.on(1, 9, 1), x.on(2, 9, 2), x.fund(9), x.empty(), x.comes(0, 6), x.meet(0, 2), x.worn(1),
      x.stop(1), x.stop(9), x.penny(9, 1), x.reason(2, 9, 1), x.kind(0, 9), x.begin(0, 9), x.richest(9),
      x.rival(2, 0, 9), x.enough(9), x.book(0, 0), x.write(0, 39, 0), x.read(1, 0)};
  }

  private static void undoTakesAllBack() {
    PennyRoad x = new PennyRoad();
    for (int i = 0; i < 8; i++) {
      Roads.add(x, i % 6, i, i % 2, i, 10 * i, i);
      x.set(i, PURSE, 1000 * i);
      x.set(i, STOPPED, i / 4);
    }
    x.road(0, 4321);
    x.road(1, 13);
    x.road(2, 1);
    x.image();
    x.hours(7);
    x.road(0, 1);
    x.road(1, 1);
    x.road(2, 0);
    for (int i = 0; i < 8; i++) {
      x.turn(i, 5);
      x.set(i, STOPPED, 1);
      x.set(i, REASON, 9);
    }
    x.feed(0x647279, 3);
    x.sheet(0, 8, 1);
    x.write(0, 0, 7);
    x.at(13);
    due("35: how many WALKERS", x.undo(), 8);
    int[] now = {0, 4321, 13, 1};
    for (int what = 0; what < 4; what++) {
      due("35: now(" + what + ")", x.now(what), now[what]);
    }
    for (int i = 0; i < 8; i++) {
      int[] traits = {i % 6, i, i % 2, i, 10 * i, i, 1000 * i, i / 4};
      for (int what = 0; what < 8; what++) {
        due("35: " + what + " of " + i, x.of(i, what), traits[what]);
      }
    }
    due("34: THE TAPE not", x.count(1), 3);
    due("34: nor sheets", x.write(0, 0, 7), 7);
    due("38: undo() takes none back", x.status(0), 1);
    due("38: undo() takes none back of all", x.status(-1), 1);
    x.hours(1);
    due("35: what is kept doesn't go on", x.undo(), 8);
    due("35: HOUR as it was kept", x.now(0), 0);
    due("27: the text fed before undo()", x.text(), 1);
  }

  private static void countTells() {
    PennyRoad x = new PennyRoad();
    for (int what = 0; what < 4; what++) {
      due("37: nothing, " + what, x.count(what), 0);
    }
    due("37: another what, -1", x.count(-1), BEYOND);
    due("37: another what, 4", x.count(4), BEYOND);
    for (int i = 0; i < 8; i++) {
      x.walker(0, 0);
      x.set(i, REASON, 9);
      due("37: WALKERS", x.count(0), i + 1);
      due("37: those that go UP", x.count(2), i + 1);
      due("37: REASONS of all together", x.count(3), 9 * (i + 1));
    }
    for (int i = 0; i < 8; i++) {
      x.set(i, UP, 0);
      x.set(i, REASON, 0);
      due("37: those that go UP, fewer", x.count(2), 7 - i);
      due("37: REASONS, fewer", x.count(3), 9 * (7 - i));
    }
    for (int i = 1; i <= 30; i++) {
      x.feed(0, 4);
      due("37: bytes of THE TAPE", x.count(1), 4 * i);
    }
  }

  private static void statusCountsAll() {
    PennyRoad x = new PennyRoad();
    x.at(13);
    x.undo();
    x.lays(0);
    x.sheet(0, 8, -1);
    Roads.many(x, 10);
    x.as(0, 1);
    x.write(9, 0, 0);
    int[] want = {8, 2, 2, 1, 1, 0, 1, 1};
    for (int which = -1; which < 7; which++) {
      due("38: status(" + which + ")", x.status(which), want[which + 1]);
    }
    due("38: another one, 7", x.status(7), BEYOND);
    due("38: counted from then on", x.status(0), 3);
    due("38: another one, -2", x.status(-2), BEYOND);
    due("38: counted from then on, too", x.status(0), 4);
    due("38: all", x.status(-1), 10);
    Check.tell(x, "snow");
    due("38: a FAULT is no finding", x.status(-1), 10);
    x.tear();
    x.wipe();
    due("38: what answers 0 is no finding", x.status(-1), 10);
  }
}
