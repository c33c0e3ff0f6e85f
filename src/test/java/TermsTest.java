/** The document's Terms, sentence by sentence: each boundary from both sides, by answers worked out by hand. */
public final class TermsTest {
  private static final int BEYOND = Check.BEYOND;
  private static final int NONE = Check.NONE;
  private static final int MILE = 1;
  private static final int UP = 2;
  private static final int REASON = 3;
  private static final int TIRED = 4;
  private static final int WALKED = 5;
  private static final int PURSE = 6;
  private static final int STOPPED = 7;
  private static final int PACE = 8;
  private static final int PAY = 9;

  public static void main(String[] args) {
    findingsAreTold();
    findingsInLongs();
    quotientsAreCut();
    setsAreBits();
    milesAreThirteen();
    hatchesAreAtTheEnds();
    stoneIsAtSix();
    hourIsLimited();
    roadIsLimited();
    walkersAreEight();
    oneIsNewSo();
    paceOfWalker();
    paceOfLover();
    paceOfCheat();
    paceOfPilgrim();
    payByWalked();
    payByPenny();
    wearsByFives();
    wearsTwiceAndOne();
    wearsNoLessThanNothing();
    goesByNumbers();
    stoppedDoNotGo();
    goesNoFurtherThanTheHatch();
    walkedIsLimited();
    tiredIsLimited();
    hatchToWhichItWent();
    itMayHaveBeenThere();
    withoutReasonItTurns();
    paidAsMuchAsThereIs();
    purseIsLimited();
    askedBehindThoseAhead();
    onChangesNothing();
    sheetsAreFour();
    Check.end();
  }

  private static void due(String sentence, long got, long want) {
    Check.due(sentence, got, want);
  }

  private static void findingsAreTold() {
    PennyRoad x = new PennyRoad();
    due("FINDINGS: BEYOND", x.at(13), -1000000001);
    due("FINDINGS: NONE", x.undo(), -1000000004);
    due("FINDINGS: MISSING", x.lays(0), -1000000006);
    due("FINDINGS: SIZE", x.sheet(0, 8, -1), -1000000007);
    Roads.many(x, 8);
    due("FINDINGS: FULL", x.walker(0, 0), -1000000002);
    due("FINDINGS: KIND", x.as(0, 1), -1000000003);
    PennyRoad y = new PennyRoad();
    Roads.pass(y, 99999);
    due("FINDINGS: STATE", y.hours(1), -1000000005);
  }

  private static void findingsInLongs() {
    PennyRoad x = new PennyRoad();
    due("in longs, too: no such sheet", x.write(4, 0, 0L), -1000000001L);
    due("in longs, too: MISSING", x.write(0, 0, 0L), -1000000006L);
    x.sheet(0, 64, 1);
    due("in longs, too: no such number", x.write(0, 1, 0L), -1000000001L);
    int found = x.status(-1);
    x.write(0, 0, -1000000001L);
    due("a number that looks like a finding is what it was", x.write(0, 0, 0L), -1000000001L);
    due("a number that looks like a finding is none", x.status(-1), found);
  }

  private static void quotientsAreCut() {
    PennyRoad x = Roads.of(3, 4, 1, 5, 0, 0);
    due("Quotients are cut: half of 3 miles", x.of(0, PACE), 1);
    x.set(0, TIRED, 10);
    due("Quotients are cut: half of 2 miles", x.of(0, PACE), 1);
    x.road(1, 0);
    int[] halves = {0, 0, 1, 1, 2, 2, 3, 3, 4, 4, 5, 5, 6};
    for (int w = 0; w <= 12; w++) {
      x.set(0, WALKED, w);
      due("Quotients are cut: half of w " + w, x.of(0, PAY), halves[w]);
    }
  }

  private static void setsAreBits() {
    PennyRoad x = new PennyRoad();
    due("Sets are told by bits: nobody", x.at(0), 0);
    Roads.many(x, 8);
    due("Sets are told by bits: all", x.at(0), 255);
    due("Sets are told by bits: all with a REASON", x.now(5), 255);
    due("Sets are told by bits: none STOPPED", x.now(6), 0);
    for (int i = 0; i < 8; i++) {
      x.set(i, MILE, 5);
      x.set(i, REASON, 0);
      x.set(i, STOPPED, 1);
      due("Sets are told by bits: " + i + " AT 5", x.at(5), 1 << i);
      due("Sets are told by bits: all but " + i, x.now(5), 255 - (1 << i));
      due("Sets are told by bits: " + i + " STOPPED", x.now(6), 1 << i);
      x.set(i, MILE, 0);
      x.set(i, REASON, 1);
      x.set(i, STOPPED, 0);
    }
  }

  private static void milesAreThirteen() {
    PennyRoad x = new PennyRoad();
    due("MILES 0 to 12: walker AT -1", x.walker(0, -1), BEYOND);
    due("MILES 0 to 12: walker AT 0", x.walker(0, 0), 0);
    due("MILES 0 to 12: walker AT 12", x.walker(0, 12), 1);
    due("MILES 0 to 12: walker AT 13", x.walker(0, 13), BEYOND);
    due("MILES 0 to 12: at(-1)", x.at(-1), BEYOND);
    due("MILES 0 to 12: at(0)", x.at(0), 1);
    due("MILES 0 to 12: at(12)", x.at(12), 2);
    due("MILES 0 to 12: at(13)", x.at(13), BEYOND);
    due("MILES 0 to 12: set -1", x.set(0, MILE, -1), BEYOND);
    due("MILES 0 to 12: set 12", x.set(0, MILE, 12), 0);
    due("MILES 0 to 12: set 0", x.set(0, MILE, 0), 12);
    due("MILES 0 to 12: set 13", x.set(0, MILE, 13), BEYOND);
    due("MILES 0 to 12: comes to -1", x.comes(0, -1), BEYOND);
    due("MILES 0 to 12: comes to 0", x.comes(0, 0), 0);
    due("MILES 0 to 12: comes to 12", x.comes(0, 12), 4);
    due("MILES 0 to 12: comes to 13", x.comes(0, 13), BEYOND);
  }

  private static void hatchesAreAtTheEnds() {
    for (int mile = 0; mile <= 12; mile++) {
      PennyRoad up = Roads.of(3, mile, 1, 5, 0, 0);
      up.hours(1);
      due("a HATCH at 12: it turns, UP from " + mile, up.of(0, UP), mile >= 11 ? 0 : 1);
      due("a HATCH at 12: it is AT", up.of(0, MILE), Math.min(12, mile + 1));
      PennyRoad down = Roads.of(3, mile, 0, 5, 0, 0);
      down.hours(1);
      due("a HATCH at 0: it turns, down from " + mile, down.of(0, UP), mile <= 1 ? 1 : 0);
      due("a HATCH at 0: it is AT", down.of(0, MILE), Math.max(0, mile - 1));
    }
  }

  private static void stoneIsAtSix() {
    int[][] steps = {{2, 1, 5, 5}, {3, 1, 6, 0}, {4, 1, 7, 5}, {8, 0, 5, 5}, {9, 0, 6, 0}, {10, 0, 7, 5}};
    for (int[] s : steps) {
      PennyRoad x = Roads.of(0, s[0], s[1], 5, 4, 0);
      x.hours(1);
      due("a STONE at 6: AT from " + s[0], x.of(0, MILE), s[2]);
      due("If it is AT the STONE then, TIRED is 0: from " + s[0], x.of(0, TIRED), s[3]);
    }
    PennyRoad far = Roads.of(0, 4, 1, 5, 99, 0);
    far.hours(1);
    due("AT the STONE: TIRED 99 is 0, too", far.of(0, TIRED), 0);
    far.hours(1);
    due("from the STONE: TIRED 1 more again", far.of(0, TIRED), 1);
    PennyRoad still = Roads.of(0, 6, 1, 5, 42, 0);
    still.set(0, STOPPED, 1);
    still.hours(1);
    due("AT the STONE, but STOPPED: it stays as TIRED", still.of(0, TIRED), 42);
    PennyRoad set = Roads.of(0, 3, 1, 5, 42, 0);
    set.set(0, MILE, 6);
    due("set AT the STONE: no HOUR went", set.of(0, TIRED), 42);
  }

  private static void hourIsLimited() {
    PennyRoad x = new PennyRoad();
    due("HOUR: 0 at first", x.now(0), 0);
    x.hours(1);
    due("Then HOUR is 1 more", x.now(0), 1);
    Roads.pass(x, 99798);
    due("HOUR 99799", x.now(0), 99799);
    due("99999 at most: just so", x.hours(200), 1000);
    due("HOUR 99999", x.now(0), 99999);
    due("99999 at most: 1 more", x.hours(1), Check.STATE);
    due("HOUR 99999 still", x.now(0), 99999);
  }

  private static void roadIsLimited() {
    int[] first = {1000, 1, 0};
    int[] most = {999999, 20, 1};
    for (int what = 0; what < 3; what++) {
      PennyRoad x = new PennyRoad();
      due("FUND, PENNY, RAIN at first: " + what, x.now(what + 1), first[what]);
      due("at least 0: -1 for " + what, x.road(what, -1), BEYOND);
      due("at most: 1 more for " + what, x.road(what, most[what] + 1), BEYOND);
      due("as it was: " + what, x.now(what + 1), first[what]);
      due("at most: just so for " + what, x.road(what, most[what]), first[what]);
      due("at most: is " + what, x.now(what + 1), most[what]);
      due("at least 0: just so for " + what, x.road(what, 0), most[what]);
      due("at least 0: is " + what, x.now(what + 1), 0);
    }
  }

  private static void walkersAreEight() {
    PennyRoad x = new PennyRoad();
    for (int i = 0; i < 8; i++) {
      due("WALKERS 0, 1, .. (at most 8)", x.walker(0, 0), i);
      due("of one that is there", x.of(i, 0), 0);
      due("of one that isn't yet", x.of(i + 1, 0), BEYOND);
    }
    due("at most 8: a 9th", x.walker(0, 0), Check.FULL);
    due("at most 8: number 7 is the last", x.of(7, 0), 0);
    due("at most 8: there is no number 8", x.of(8, 0), BEYOND);
  }

  private static void oneIsNewSo() {
    int[] first = {0, 0, 1, 5, 0, 0, 0, 0};
    int[] most = {0, 12, 1, 9, 99, 12, 999999, 1};
    PennyRoad x = new PennyRoad();
    x.walker(0, 0);
    for (int what = 1; what < 8; what++) {
      due("at first: " + what, x.of(0, what), first[what]);
      due("at least 0: -1 for " + what, x.set(0, what, -1), BEYOND);
      due("at most: 1 more for " + what, x.set(0, what, most[what] + 1), BEYOND);
      due("at most: just so for " + what, x.set(0, what, most[what]), first[what]);
      due("at least 0: just so for " + what, x.set(0, what, 0), most[what]);
      x.set(0, what, first[what]);
    }
  }

  private static void paceOfWalker() {
    int[] tired = {0, 9, 10, 99};
    int[][] paces = {{3, 3, 2, 2}, {3, 3, 2, 2}, {3, 3, 2, 2}, {1, 1, 1, 1}, {3, 3, 2, 2}, {1, 1, 1, 1}};
    for (int kind = 0; kind < 6; kind++) {
      for (int i = 0; i < tired.length; i++) {
        PennyRoad x = Roads.of(kind, 0, 1, 5, tired[i], 0);
        due("PACE 3, but 2 if TIRED is above 9: " + tired[i] + " of " + kind, x.of(0, PACE), paces[kind][i]);
        x.hours(1);
        due("it goes as many miles as its PACE: " + tired[i] + " of " + kind, x.of(0, MILE), paces[kind][i]);
      }
    }
  }

  private static void paceOfLover() {
    PennyRoad x = Roads.of(2, 6, 1, 5, 0, 0);
    due("LOVER: alone", x.of(0, PACE), 3);
    x.walker(0, 5);
    x.walker(0, 7);
    due("LOVER: others a mile off", x.of(0, PACE), 3);
    x.walker(5, 6);
    due("LOVER: another one", x.of(0, PACE), 4);
    x.walker(2, 6);
    due("LOVER: and 1, with several, too", x.of(0, PACE), 4);
    due("LOVER: the other one, too", x.of(4, PACE), 4);
    due("LOVER: only LOVERS", x.of(3, PACE), 1);
    x.set(0, TIRED, 10);
    due("LOVER: as WALKER, and 1", x.of(0, PACE), 3);
    x.set(3, STOPPED, 1);
    x.set(4, MILE, 0);
    due("LOVER: another one that is STOPPED", x.of(0, PACE), 3);
    x.set(3, MILE, 0);
    due("LOVER: alone again", x.of(0, PACE), 2);
  }

  private static void paceOfCheat() {
    int[] reasons = {0, 1, 9};
    int[] fresh = {4, 3, 3};
    for (int i = 0; i < reasons.length; i++) {
      PennyRoad x = Roads.of(4, 6, 1, reasons[i], 9, 0);
      due("CHEAT: and 1, if it has no REASON: " + reasons[i], x.of(0, PACE), fresh[i]);
      x.set(0, TIRED, 10);
      due("CHEAT: as PEDLAR, TIRED, REASON " + reasons[i], x.of(0, PACE), fresh[i] - 1);
      x.turn(0, 1);
      due("PEDLAR: as WALKER, with REASON " + reasons[i], x.of(0, PACE), 2);
    }
  }

  private static void paceOfPilgrim() {
    PennyRoad x = Roads.of(5, 6, 1, 5, 0, 0);
    due("PILGRIM: as LAME", x.of(0, PACE), 1);
    x.road(2, 1);
    due("PILGRIM: and 1 in RAIN", x.of(0, PACE), 2);
    x.set(0, TIRED, 99);
    due("PILGRIM: TIRED in RAIN", x.of(0, PACE), 2);
    for (int kind = 0; kind < 5; kind++) {
      x.turn(0, kind);
      due("only a PILGRIM in RAIN: " + kind, x.of(0, PACE), kind == 3 ? 1 : 2);
    }
  }

  private static void payByWalked() {
    int[][] dry = {{0, 1, 11, 12}, {2, 3, 13, 14}, {0, 2, 22, 24}, {0, 1, 16, 18}, {2, 3, 13, 14}, {0, 0, 0, 0}};
    int[][] wet = {{0, 2, 22, 24}, {2, 4, 24, 26}, {0, 4, 44, 48}, {0, 2, 27, 30}, {2, 4, 24, 26}, {0, 0, 0, 0}};
    int[] walked = {0, 1, 11, 12};
    for (int kind = 0; kind < 6; kind++) {
      for (int i = 0; i < walked.length; i++) {
        PennyRoad x = Roads.of(kind, 5, 1, 5, 0, walked[i]);
        due("PAY for w " + walked[i] + " of " + kind, x.of(0, PAY), dry[kind][i]);
        x.road(2, 1);
        due("PAY, and w in RAIN, for w " + walked[i] + " of " + kind, x.of(0, PAY), wet[kind][i]);
      }
    }
  }

  private static void payByPenny() {
    int[][] pays = {{0, 240}, {2, 242}, {0, 480}, {6, 246}, {2, 242}, {0, 0}};
    for (int kind = 0; kind < 6; kind++) {
      PennyRoad x = Roads.of(kind, 5, 1, 5, 0, 12);
      x.road(1, 0);
      due("PAY by a PENNY of 0, of " + kind, x.of(0, PAY), pays[kind][0]);
      x.road(1, 20);
      due("PAY by a PENNY of 20, of " + kind, x.of(0, PAY), pays[kind][1]);
      x.set(0, REASON, 0);
      due("PAY for what it WALKED, though without a REASON, of " + kind, x.of(0, PAY), pays[kind][1]);
    }
  }

  private static void wearsByFives() {
    int[][] left = {{8, 8, 8, 8, 8, 8}, {9, 8, 8, 8, 8, 9}, {8, 8, 8, 8, 8, 8}, {9, 9, 9, 9, 9, 9},
        {8, 6, 6, 6, 6, 8}, {9, 9, 9, 9, 9, 9}};
    for (int kind = 0; kind < 6; kind++) {
      for (int hour = 0; hour < 6; hour++) {
        PennyRoad x = new PennyRoad();
        Roads.pass(x, hour);
        Roads.add(x, kind, 12, 1, 9, 0, 0);
        x.hours(1);
        due("WEARS at HOUR " + hour + " of " + kind, x.of(0, REASON), left[kind][hour]);
      }
    }
  }

  private static void wearsTwiceAndOne() {
    PennyRoad x = new PennyRoad();
    x.hours(4);
    Roads.add(x, 4, 12, 1, 4, 0, 0);
    x.hours(1);
    due("CHEAT: twice as PEDLAR, and 1, at HOUR 4", x.of(0, REASON), 1);
    x.set(0, UP, 1);
    x.hours(1);
    due("CHEAT: twice 0, and 1, at HOUR 5", x.of(0, REASON), 0);
  }

  private static void wearsNoLessThanNothing() {
    int[] reasons = {1, 2, 3, 4};
    int[] left = {0, 0, 0, 1};
    for (int i = 0; i < reasons.length; i++) {
      PennyRoad x = new PennyRoad();
      x.hours(1);
      Roads.add(x, 4, 12, 1, reasons[i], 0, 0);
      x.hours(1);
      due("REASON (0 at least): CHEAT with " + reasons[i], x.of(0, REASON), left[i]);
      due("REASON (0 at least): PAID all the same", x.of(0, PURSE), 2);
    }
    PennyRoad y = Roads.of(0, 12, 1, 1, 0, 3);
    y.hours(1);
    due("REASON (0 at least): WALKER with 1", y.of(0, REASON), 0);
    due("a REASON (above 0): 1 is enough", y.of(0, PURSE), 3);
  }

  private static void goesByNumbers() {
    PennyRoad x = new PennyRoad();
    x.road(0, 10);
    for (int i = 0; i < 8; i++) {
      Roads.arriving(x, 0, 3);
    }
    x.hours(1);
    int[] purses = {3, 3, 3, 1, 0, 0, 0, 0};
    for (int i = 0; i < 8; i++) {
      due("WALKERS by numbers: " + i, x.of(i, PURSE), purses[i]);
      due("PAID nothing wears, too: " + i, x.of(i, REASON), 4);
    }
  }

  private static void stoppedDoNotGo() {
    PennyRoad x = new PennyRoad();
    int[] miles = {0, 5, 6, 12};
    for (int mile : miles) {
      int one = Roads.add(x, 1, mile, mile == 0 ? 0 : 1, 5, 7, 4);
      x.set(one, STOPPED, 1);
    }
    due("but for those that are STOPPED: FUND", x.hours(200), 1000);
    for (int i = 0; i < miles.length; i++) {
      int[] traits = {1, miles[i], miles[i] == 0 ? 0 : 1, 5, 7, 4, 0, 1};
      for (int what = 0; what < 8; what++) {
        due("but for those that are STOPPED: " + what + " of " + i, x.of(i, what), traits[what]);
      }
    }
    due("HOUR goes on", x.now(0), 200);
    x.set(3, STOPPED, 0);
    due("no more STOPPED: it is PAID", x.hours(1), 1000 - 6);
  }

  private static void goesNoFurtherThanTheHatch() {
    for (int left = 0; left <= 4; left++) {
      int went = Math.min(3, left);
      PennyRoad up = Roads.of(0, 12 - left, 1, 5, 0, 0);
      up.hours(1);
      due("UP, but no further than the HATCH: " + left, up.of(0, MILE), 12 - left + went);
      due("UP: PAID for as it went: " + left, up.of(0, PURSE), left <= 3 ? went : 0);
      due("UP: WALKED so many more, or 0 AT the HATCH: " + left, up.of(0, WALKED), left <= 3 ? 0 : went);
      due("UP: it turns: " + left, up.of(0, UP), left <= 3 ? 0 : 1);
      PennyRoad down = Roads.of(0, left, 0, 5, 0, 0);
      down.hours(1);
      due("down, but no further than the HATCH: " + left, down.of(0, MILE), left - went);
      due("down: PAID for as it went: " + left, down.of(0, PURSE), left <= 3 ? went : 0);
      due("down: WALKED so many more, or 0 AT the HATCH: " + left, down.of(0, WALKED), left <= 3 ? 0 : went);
      due("down: it turns: " + left, down.of(0, UP), left <= 3 ? 1 : 0);
    }
  }

  private static void walkedIsLimited() {
    int[] before = {8, 9, 10, 11, 12};
    int[] after = {11, 12, 12, 12, 12};
    for (int i = 0; i < before.length; i++) {
      PennyRoad x = Roads.of(0, 0, 1, 5, 0, before[i]);
      x.hours(1);
      due("WALKED (12 at most) from " + before[i], x.of(0, WALKED), after[i]);
      PennyRoad y = Roads.of(0, 9, 1, 5, 0, before[i]);
      y.hours(1);
      due("PAID for WALKED (12 at most) from " + before[i], y.of(0, PURSE), after[i]);
    }
  }

  private static void tiredIsLimited() {
    int[] before = {97, 98, 99};
    int[] after = {98, 99, 99};
    for (int i = 0; i < before.length; i++) {
      PennyRoad x = Roads.of(0, 0, 1, 5, before[i], 0);
      x.hours(1);
      due("TIRED 1 more (99 at most) from " + before[i], x.of(0, TIRED), after[i]);
      PennyRoad y = Roads.of(0, 12, 1, 5, before[i], 0);
      y.hours(1);
      due("TIRED 1 more, though it didn't go a mile, from " + before[i], y.of(0, TIRED), after[i]);
    }
  }

  private static void hatchToWhichItWent() {
    PennyRoad low = Roads.of(1, 0, 1, 5, 0, 9);
    due("the HATCH to which it went: not the lower, going UP", low.hours(1), 1000);
    due("going UP still", low.of(0, UP), 1);
    due("WALKED on", low.of(0, WALKED), 12);
    PennyRoad high = Roads.of(1, 12, 0, 5, 0, 9);
    due("the HATCH to which it went: not the upper, going down", high.hours(1), 1000);
    due("going down still", high.of(0, UP), 0);
    due("WALKED down", high.of(0, WALKED), 12);
  }

  private static void itMayHaveBeenThere() {
    int[] miles = {12, 0};
    int[] ups = {1, 0};
    for (int i = 0; i < 2; i++) {
      PennyRoad x = Roads.of(0, miles[i], ups[i], 5, 0, 7);
      due("it may have been there: PAID for 7", x.hours(1), 993);
      due("it may have been there: AT", x.of(0, MILE), miles[i]);
      due("it may have been there: WALKED becomes 0", x.of(0, WALKED), 0);
      due("it may have been there: it turns", x.of(0, UP), 1 - ups[i]);
      due("it may have been there: REASON", x.of(0, REASON), 4);
      due("it may have been there: not PAID again", x.hours(1), 993);
      due("it may have been there: it goes", x.of(0, WALKED), 3);
    }
  }

  private static void withoutReasonItTurns() {
    for (int kind = 0; kind < 6; kind++) {
      PennyRoad x = Roads.of(kind, 12, 1, 0, 0, 9);
      due("without a REASON it isn't PAID: " + kind, x.hours(1), 1000);
      due("without a REASON: PURSE of " + kind, x.of(0, PURSE), 0);
      due("in any case WALKED becomes 0: " + kind, x.of(0, WALKED), 0);
      due("in any case it turns: " + kind, x.of(0, UP), 0);
      due("without a REASON none goes: " + kind, x.of(0, REASON), 0);
    }
  }

  private static void paidAsMuchAsThereIs() {
    int[] funds = {0, 1, 11, 12, 13};
    int[] paid = {0, 1, 11, 12, 12};
    for (int i = 0; i < funds.length; i++) {
      PennyRoad x = Roads.of(0, 12, 1, 5, 0, 12);
      x.road(0, funds[i]);
      due("PAY, or as much as there is: FUND " + funds[i], x.hours(1), funds[i] - paid[i]);
      due("PAY, or as much as there is: PURSE by " + funds[i], x.of(0, PURSE), paid[i]);
      due("PAID by an empty FUND it wears, too: " + funds[i], x.of(0, REASON), 4);
    }
  }

  private static void purseIsLimited() {
    int[] before = {999986, 999987, 999988, 999999};
    int[] after = {999998, 999999, 999999, 999999};
    for (int i = 0; i < before.length; i++) {
      PennyRoad x = Roads.of(0, 12, 1, 5, 0, 12);
      x.set(0, PURSE, before[i]);
      due("the FUND pays all of it: from " + before[i], x.hours(1), 988);
      due("999999 at most there: from " + before[i], x.of(0, PURSE), after[i]);
    }
  }

  private static void askedBehindThoseAhead() {
    PennyRoad came = Roads.of(0, 3, 1, 5, 0, 0);
    came.walker(2, 6);
    came.hours(1);
    due("who is AT its MILE: one ahead came", came.of(1, MILE), 10);
    PennyRoad left = Roads.of(0, 6, 1, 5, 0, 0);
    left.walker(2, 6);
    left.hours(1);
    due("who is AT its MILE: one ahead left", left.of(1, MILE), 9);
    PennyRoad behind = Roads.of(2, 6, 1, 5, 0, 0);
    behind.walker(0, 6);
    behind.walker(0, 3);
    behind.hours(1);
    due("who is AT its MILE: one behind is there still", behind.of(0, MILE), 10);
    PennyRoad fund = Roads.of(0, 12, 1, 5, 0, 12);
    Roads.add(fund, 0, 12, 1, 5, 0, 12);
    fund.road(0, 20);
    fund.hours(1);
    due("what the FUND is: the first", fund.of(0, PURSE), 12);
    due("what the FUND is: the second", fund.of(1, PURSE), 8);
  }

  private static void onChangesNothing() {
    PennyRoad x = Roads.of(0, 9, 1, 5, 3, 9);
    due("ON: the FUND goes on", x.fund(200), 1000 - 12 - 4 * 12);
    due("ON: nothing changes, FUND", x.now(1), 1000);
    due("ON: nothing changes, HOUR", x.now(0), 0);
    int[] traits = {0, 9, 1, 5, 3, 9, 0, 0};
    for (int what = 0; what < 8; what++) {
      due("ON: nothing changes, " + what, x.of(0, what), traits[what]);
    }
    due("ON: as HOURS go", x.hours(200), 940);
    PennyRoad late = new PennyRoad();
    Roads.pass(late, 99999);
    late.walker(0, 9);
    due("ON behind HOUR 99999: n HOURS go on all the same", late.fund(1), 997);
    due("ON behind HOUR 99999: comes", late.comes(0, 0), 5);
    // A PEDLAR is PAID in the second HOUR, which is 100000: its rest by 5 is 0.
    late.walker(1, 8);
    due("ON behind HOUR 99999: HOUR is 1 more all the same", late.on(1, 2, 2), 5);
    due("ON behind HOUR 99999: nothing changes", late.now(0), 99999);
  }

  private static void sheetsAreFour() {
    PennyRoad x = new PennyRoad();
    for (int s = 0; s < 4; s++) {
      due("SHEETS are MISSING at first: " + s, x.write(s, 0, 0), Check.MISSING);
    }
    due("SHEETS 0 to 3: -1", x.sheet(-1, 8, 1), BEYOND);
    due("SHEETS 0 to 3: 0", x.sheet(0, 8, 1), 1);
    due("SHEETS 0 to 3: 3", x.sheet(3, 64, 40), 40);
    due("SHEETS 0 to 3: 4", x.sheet(4, 8, 1), BEYOND);
    due("at most 40 numbers: 41", x.sheet(3, 64, 41), BEYOND);
    due("at most 40 numbers: number 39", x.write(3, 39, 5), 0);
    due("at most 40 numbers: number 40", x.write(3, 40, 5), BEYOND);
    due("each sheet is its own", x.write(0, 0, 9), 0);
    due("no image was kept of them", x.undo(), NONE);
  }
}
