/** THE TAPE and THE TEXT of a ROAD, sentence by sentence: each boundary from both sides. */
public final class TextTest {
  private static final String[] NAMES = {"walker", "pedlar", "lover", "lame", "cheat", "pilgrim"};
  private static final String[] WORDS = {"walker", "pedlar", "lover", "lame", "cheat", "pilgrim", "rain", "dry"};

  public static void main(String[] args) {
    tapeIsLimited();
    feedTakesTheLowestBytes();
    feedOfSomeBytes();
    everyByteAlone();
    everyByteBehindAWord();
    everyByteBehindANumber();
    tokensAreAsLongAsCanBe();
    wordsAreWhole();
    blanksMayStandBetween();
    numbersAreLimited();
    numberWithZerosAhead();
    itemsOfKinds();
    partsInTheirOrder();
    endsTooEarly();
    tokensThatCannotStand();
    aNinth();
    firstFaultTells();
    faultChangesNothing();
    itemsComeInTheirOrder();
    itemsComeToWhatThereIs();
    longestText();
    Check.end();
  }

  private static void due(String sentence, long got, long want) {
    Check.due(sentence, got, want);
  }

  private static void fault(String text, int place) {
    PennyRoad x = new PennyRoad();
    due("FAULT of '" + text + "'", Check.tell(x, text), -1 - place);
    due("no finding by '" + text + "'", x.status(-1), 0);
    due("THE TAPE is empty behind '" + text + "'", x.count(1), 0);
  }

  private static void items(String text, int many) {
    due("ITEMS of '" + text + "'", Check.tell(new PennyRoad(), text), many);
  }

  private static void tapeIsLimited() {
    for (int n = 1; n <= 4; n++) {
      PennyRoad x = new PennyRoad();
      Check.feedAll(x, Roads.repeat(" ", 120 - n));
      due("bytes, at most 120: just so by " + n, x.feed(0, n), 120);
      due("bytes, at most 120: a byte more", x.feed(0, 1), Check.FULL);
      due("bytes, at most 120: there are", x.count(1), 120);
      PennyRoad y = new PennyRoad();
      Check.feedAll(y, Roads.repeat(" ", 121 - n));
      due("bytes, at most 120: one too many by " + n, y.feed(0, n), Check.FULL);
      due("FULL takes none of them: " + n, y.count(1), 121 - n);
      due("BEYOND ahead of FULL: n 5", y.feed(0, 5), Check.BEYOND);
      due("BEYOND ahead of FULL: n 0", y.feed(0, 0), Check.BEYOND);
      due("FULL no more when it is empty", y.wipe(), 121 - n);
      due("room again", y.feed(0, n), n);
    }
  }

  private static void feedTakesTheLowestBytes() {
    int[] bytes = {0x79, 0x2079, 0x647279, 0x64727920};
    String[] ahead = {"dr", "dry;dr", "", ""};
    int[] want = {1, -1 - 4, 1, 1};
    for (int n = 1; n <= 4; n++) {
      PennyRoad x = new PennyRoad();
      Check.feedAll(x, ahead[n - 1]);
      due("the highest of these first: n " + n, x.feed(bytes[n - 1], n), ahead[n - 1].length() + n);
      due("the highest of these first: text by n " + n, x.text(), want[n - 1]);
    }
    PennyRoad y = new PennyRoad();
    y.feed(0xFF647279, 3);
    due("the 3 lowest bytes, of a number below 0", y.text(), 1);
    y.feed(0xFFFF6472, 2);
    y.feed(0xFFFFFF79, 1);
    due("the 2 lowest, then the lowest", y.text(), 1);
    y.feed(0xE4727920, 4);
    due("a highest byte above 127 is no letter", y.text(), -1);
  }

  private static void feedOfSomeBytes() {
    PennyRoad x = new PennyRoad();
    due("n 1 to 4: 0", x.feed(0x79, 0), Check.BEYOND);
    due("n 1 to 4: 5", x.feed(0x79, 5), Check.BEYOND);
    due("n 1 to 4: none came", x.count(1), 0);
    due("n 1 to 4: 1", x.feed(0x79, 1), 1);
    due("n 1 to 4: 4", x.feed(0x79, 4), 5);
    due("wipe: how many it had", x.wipe(), 5);
    due("wipe: empty", x.wipe(), 0);
    due("an empty TAPE ends too early", x.text(), -1);
  }

  private static boolean isLetter(int b) {
    return "abcdefghijklmnopqrstuvwxyz".indexOf(b) >= 0;
  }

  private static boolean isDigit(int b) {
    return "0123456789".indexOf(b) >= 0;
  }

  private static void everyByteAlone() {
    for (int b = 0; b < 256; b++) {
      PennyRoad x = new PennyRoad();
      x.feed(b, 1);
      due("byte " + b + " alone", x.text(), b == ' ' ? -1 - 1 : -1);
    }
  }

  private static void everyByteBehindAWord() {
    for (int b = 0; b < 256; b++) {
      PennyRoad x = new PennyRoad();
      x.feed(0x647279, 3);
      x.feed(b, 1);
      int want = b == ' ' ? 1 : isLetter(b) ? -1 : b == ';' ? -1 - 4 : -1 - 3;
      due("byte " + b + " behind dry", x.text(), want);
    }
  }

  private static void everyByteBehindANumber() {
    for (int b = 0; b < 256; b++) {
      PennyRoad x = new PennyRoad();
      x.feed(0x66756E64, 4);
      x.feed(0x31, 1);
      x.feed(b, 1);
      boolean stands = b == ' ' || isDigit(b);
      due("byte " + b + " behind fund1", x.text(), stands ? 1 : b == ';' ? -1 - 6 : -1 - 5);
      due("FUND by byte " + b, x.now(1), isDigit(b) ? 10 + b - '0' : stands ? 1 : 1000);
    }
  }

  private static void tokensAreAsLongAsCanBe() {
    items("penny1", 1);
    items("penny 1;rain;dry", 3);
    fault("rainrain", 0);
    fault("walkerat 3", 0);
    fault("walker atdown", 7);
    fault("walker downreason 3", 7);
    fault("penny 2 0", 8);
    fault("penny 200", 6);
    fault("walker at 1 2", 12);
    items("walker at12down reason9", 1);
    items("walker at 3reason 4", 1);
  }

  private static void wordsAreWhole() {
    for (String word : WORDS) {
      items(word, 1);
      fault(word + "s", 0);
      fault(word.substring(1), 0);
      fault(word.substring(0, word.length() - 1), 0);
      for (int i = 0; i < word.length(); i++) {
        fault(word.substring(0, i) + "z" + word.substring(i + 1), 0);
        fault(word.substring(0, i) + (char) (word.charAt(i) - 32) + word.substring(i + 1), 0);
      }
    }
    String[] withNumbers = {"fund", "penny"};
    for (String word : withNumbers) {
      for (int i = 0; i < word.length(); i++) {
        fault(word.substring(0, i) + "z" + word.substring(i + 1) + " 3", 0);
      }
      fault(word + "s 3", 0);
    }
    String[] parts = {"at", "reason"};
    for (String word : parts) {
      for (int i = 0; i < word.length(); i++) {
        fault("lame " + word.substring(0, i) + "z" + word.substring(i + 1) + " 3", 5);
      }
      fault("lame " + word + "s 3", 5);
    }
    for (int i = 0; i < 4; i++) {
      fault("lame " + "down".substring(0, i) + "z" + "down".substring(i + 1), 5);
    }
  }

  private static void blanksMayStandBetween() {
    items("   dry", 1);
    items("dry   ", 1);
    items("  walker  at  3  down  reason  4  ;  dry  ", 2);
    items("dry;dry", 2);
    items("dry ;dry", 2);
    items("dry; dry", 2);
    fault(" ", 1);
    fault("  walkers", 2);
    fault("dr y", 0);
    fault("dry\t", 3);
    fault("dry\n", 3);
  }

  private static void numbersAreLimited() {
    String[] ahead = {"walker at ", "walker reason ", "fund ", "penny "};
    int[] most = {12, 9, 9999, 20};
    for (int i = 0; i < ahead.length; i++) {
      items(ahead[i] + "0", 1);
      items(ahead[i] + most[i], 1);
      fault(ahead[i] + (most[i] + 1), ahead[i].length());
      fault(ahead[i] + "10000", ahead[i].length());
      // 2 to the 32nd, and 1 more than 2 to the 64th: they must not wrap round to small numbers.
      fault(ahead[i] + "4294967296", ahead[i].length());
      fault(ahead[i] + "18446744073709551617", ahead[i].length());
      fault(ahead[i] + "-1", ahead[i].length());
    }
    PennyRoad x = new PennyRoad();
    Check.tell(x, "walker at 12;walker at 0;walker reason 9;walker reason 0;fund 9999;penny 20");
    due("a MILE of 12", x.of(0, 1), 12);
    due("a MILE of 0", x.of(1, 1), 0);
    due("a REASON of 9", x.of(2, 3), 9);
    due("a REASON of 0", x.of(3, 3), 0);
    due("FUND 9999", x.now(1), 9999);
    due("PENNY 20", x.now(2), 20);
    Check.tell(x, "fund 0;penny 0");
    due("FUND 0", x.now(1), 0);
    due("PENNY 0", x.now(2), 0);
  }

  private static void numberWithZerosAhead() {
    PennyRoad x = new PennyRoad();
    due("digits, 9999 at most: 00000009999", Check.tell(x, "fund 00000009999"), 1);
    due("FUND of it", x.now(1), 9999);
    fault("fund 000010000", 5);
    due("digits: 0000012", Check.tell(x, "lame at 0000012"), 1);
    due("a MILE of it", x.of(0, 1), 12);
  }

  private static void itemsOfKinds() {
    PennyRoad x = new PennyRoad();
    for (int kind = 0; kind < 6; kind++) {
      due("one more: " + NAMES[kind], Check.tell(x, NAMES[kind]), 1);
      int[] traits = {kind, 0, 1, 5, 0, 0, 0, 0};
      for (int what = 0; what < 8; what++) {
        due("one more: " + what + " of " + NAMES[kind], x.of(kind, what), traits[what]);
      }
    }
  }

  private static void partsInTheirOrder() {
    String[] texts = {"lame at 7", "lame down", "lame reason 2", "lame at 7 down", "lame at 7 reason 2",
        "lame down reason 2", "lame at 7 down reason 2"};
    int[][] traits = {{7, 1, 5}, {0, 0, 5}, {0, 1, 2}, {7, 0, 5}, {7, 1, 2}, {0, 0, 2}, {7, 0, 2}};
    for (int i = 0; i < texts.length; i++) {
      PennyRoad x = new PennyRoad();
      due("perhaps: " + texts[i], Check.tell(x, texts[i]), 1);
      for (int what = 1; what <= 3; what++) {
        due("perhaps: " + what + " by " + texts[i], x.of(0, what), traits[i][what - 1]);
      }
    }
    fault("lame down at 7", 10);
    fault("lame reason 2 at 7", 14);
    fault("lame reason 2 down", 14);
    fault("lame at 7 at 7", 10);
    fault("lame down down", 10);
    fault("lame reason 2 reason 2", 14);
  }

  private static void endsTooEarly() {
    String[] texts = {"", "  ", "dry;", "dry; ", "walker at", "walker at ", "walker down reason", "walker reason  ",
        "fund", "fund ", "penny", "penny   ", "dry;fund", "walker;"};
    for (String text : texts) {
      fault(text, text.length());
    }
  }

  private static void tokensThatCannotStand() {
    fault(";", 0);
    fault(";dry", 0);
    fault("dry;;dry", 4);
    fault("dry ; ;dry", 6);
    fault("12", 0);
    fault("at 3", 0);
    fault("down", 0);
    fault("reason 3", 0);
    fault("dry 3", 4);
    fault("dry rain", 4);
    fault("dry walker", 4);
    fault("walker walker", 7);
    fault("walker 3", 7);
    fault("walker fund 3", 7);
    fault("walker at;", 9);
    fault("walker at at", 10);
    fault("walker at down", 10);
    fault("walker reason;", 13);
    fault("walker reason dry", 14);
    fault("fund;", 4);
    fault("fund dry", 5);
    fault("fund 3 4", 7);
    fault("fund 3 dry", 7);
    fault("penny;", 5);
    fault("penny fund", 6);
    fault("penny 3 down", 8);
    fault("dry,rain", 3);
    fault("dry;,rain", 4);
    fault("walker at *3", 10);
  }

  private static void aNinth() {
    for (int there = 0; there <= 8; there++) {
      PennyRoad x = new PennyRoad();
      Roads.many(x, there);
      int room = 8 - there;
      String many = Roads.repeat("lame;", room);
      due("the name of a KIND for a 9th, by " + there, Check.tell(x, many + "  lover at 3"), -1 - many.length() - 2);
      due("none of them came to " + there, x.count(0), there);
      due("8 can stand, by " + there, Check.tell(x, many + "dry"), room + 1);
      due("8 stand, by " + there, x.count(0), 8);
    }
    for (String name : NAMES) {
      PennyRoad x = new PennyRoad();
      Roads.many(x, 8);
      due("for a 9th: " + name, Check.tell(x, "rain;" + name), -1 - 5);
      due("not even RAIN came by " + name, x.now(3), 0);
    }
  }

  private static void firstFaultTells() {
    PennyRoad x = new PennyRoad();
    Roads.many(x, 7);
    due("the first TOKEN: a NUMBER ahead of a 9th", Check.tell(x, "lame at 13;lame"), -1 - 8);
    due("the first TOKEN: a 9th ahead of its NUMBER", Check.tell(x, "lame;lame at 13"), -1 - 5);
    due("the first TOKEN: a byte behind it", Check.tell(x, "penny 21;#"), -1 - 6);
    due("the first TOKEN: a byte ahead of it", Check.tell(x, "# penny 21"), -1);
    due("the first TOKEN: a WORD ahead of the end", Check.tell(x, "dry dry;"), -1 - 4);
    due("nobody came", x.count(0), 7);
  }

  private static void faultChangesNothing() {
    PennyRoad x = Roads.of(4, 3, 0, 7, 8, 9);
    x.road(0, 77);
    x.road(1, 7);
    x.image();
    x.sheet(0, 16, 1);
    x.write(0, 0, 55);
    due("FAULT at the end of much", Check.tell(x, "fund 5;penny 6;rain;lame at 3;lover reason 0;dry dry"), -1 - 49);
    int[] now = {0, 77, 7, 0, 0, 1, 0, 9};
    for (int what = 0; what < now.length; what++) {
      due("nothing changes: now(" + what + ")", x.now(what), now[what]);
    }
    int[] traits = {4, 3, 0, 7, 8, 9, 0, 0};
    for (int what = 0; what < traits.length; what++) {
      due("nothing changes: of(0, " + what + ")", x.of(0, what), traits[what]);
    }
    due("nothing changes: WALKERS", x.count(0), 1);
    due("but that THE TAPE is empty", x.count(1), 0);
    due("no finding", x.status(-1), 0);
    due("nothing changes: sheets", x.write(0, 0, 0), 55);
    due("nothing changes: what is kept", x.undo(), 1);
    due("what comes then is the first", Check.tell(x, "rain"), 1);
  }

  private static void itemsComeInTheirOrder() {
    PennyRoad x = new PennyRoad();
    due("ITEM { ; ITEM }", Check.tell(x, "rain;fund 1;pilgrim;dry;fund 2;cheat;penny 4;penny 5;walker"), 9);
    due("RAIN by the latest", x.now(3), 0);
    due("FUND by the latest", x.now(1), 2);
    due("PENNY by the latest", x.now(2), 5);
    int[] kinds = {5, 4, 0};
    for (int i = 0; i < kinds.length; i++) {
      due("WALKERS by their order: " + i, x.of(i, 0), kinds[i]);
    }
  }

  private static void itemsComeToWhatThereIs() {
    PennyRoad x = Roads.of(1, 4, 0, 2, 3, 5);
    x.hours(1);
    x.set(0, 6, 66);
    due("one more to what there is", Check.tell(x, "lover at 12 down"), 1);
    due("WALKERS", x.count(0), 2);
    int[] first = {1, 1, 0, 2, 4, 8, 66, 0};
    int[] second = {2, 12, 0, 5, 0, 0, 0, 0};
    for (int what = 0; what < 8; what++) {
      due("what there is: " + what, x.of(0, what), first[what]);
      due("one more: " + what, x.of(1, what), second[what]);
    }
    due("HOUR is as it was", x.now(0), 1);
    due("FUND is as it was", x.now(1), 1000);
    Check.tell(x, "rain");
    due("rain: so it is", x.now(3), 1);
    Check.tell(x, "rain");
    due("rain: so it is, though it was", x.now(3), 1);
    Check.tell(x, "dry");
    due("dry: so it is", x.now(3), 0);
    Check.tell(x, "dry");
    due("dry: so it is, though it was", x.now(3), 0);
  }

  private static void longestText() {
    items(Roads.repeat("dry;", 29) + " dry", 30);
    items(Roads.repeat("dry;", 29) + "rain", 30);
    fault(Roads.repeat("dry;", 30), 120);
    fault(Roads.repeat(" ", 120), 120);
    fault(Roads.repeat("a", 120), 0);
    fault("fund " + Roads.repeat("9", 115), 5);
    fault(Roads.repeat("dry;", 29) + "dry;", 120);
    fault(Roads.repeat("dry;", 29) + "dry,", 119);
  }
}
