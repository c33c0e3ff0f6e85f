/** A road that pays its walkers; ../shared/DOC.md says what each call promises. */
public final class PennyRoad {
  private static final int BEYOND = 0;
  private static final int FULL = 1;
  private static final int KIND = 2;
  private static final int NONE = 3;
  private static final int STATE = 4;
  private static final int MISSING = 5;
  private static final int SIZE = 6;
  private static final int FINDINGS = 7;
  private static final int FIRST_FINDING = -1000000001;

  private static final int WALKER = 0;
  private static final int PEDLAR = 1;
  private static final int LOVER = 2;
  private static final int LAME = 3;
  private static final int CHEAT = 4;
  private static final int PILGRIM = 5;
  private static final int LAST_KIND = 5;

  private static final int STONE = 6;
  private static final int LAST_MILE = 12;
  private static final int MOST_WALKERS = 8;
  private static final int MOST_REASON = 9;
  private static final int MOST_TIRED = 99;
  private static final int MOST_MONEY = 999999;
  private static final int MOST_PENNY = 20;
  private static final int LAST_HOUR = 99999;
  private static final int NOT_TIRED_YET = 9;

  private static final int FAR = 200;
  private static final int NEAR = 100;
  private static final int NEAREST = 60;
  private static final int MOST_ENOUGH = 999;
  private static final int MOST_TIRED_READ = 10;

  private static final int MOST_BYTES = 120;
  private static final int SHEETS = 4;
  private static final int MOST_NUMBERS = 40;

  private final Road present = new Road();
  // The searches try things on this one, so that no call has to make a road.
  private final Road ahead = new Road();
  private final Road kept = new Road();
  private boolean keeps = false;
  private final Tape tape = new Tape();
  private final Sheet[] sheets = new Sheet[SHEETS];
  private final int[] found = new int[FINDINGS];

  public PennyRoad() {
    for (int s = 0; s < SHEETS; s++) {
      sheets[s] = new Sheet();
    }
  }

  // ---- the road

  public int road(int what, int v) {
    if (!within(what, 0, 2) || !within(v, 0, mostOfRoad(what))) {
      return finding(BEYOND);
    }
    int was;
    if (what == 0) {
      was = present.fund;
      present.fund = v;
    } else if (what == 1) {
      was = present.penny;
      present.penny = v;
    } else {
      was = present.rain;
      present.rain = v;
    }
    return was;
  }

  public int at(int mile) {
    if (!within(mile, 0, LAST_MILE)) {
      return finding(BEYOND);
    }
    int set = 0;
    for (int i = 0; i < present.size; i++) {
      if (present.all[i].mile == mile) {
        set |= 1 << i;
      }
    }
    return set;
  }

  // ---- walkers

  public int walker(int kind, int mile) {
    if (!within(kind, 0, LAST_KIND) || !within(mile, 0, LAST_MILE)) {
      return finding(BEYOND);
    }
    if (present.isFull()) {
      return finding(FULL);
    }
    present.join(kind, mile);
    return present.size - 1;
  }

  public int of(int walker, int what) {
    if (!isThere(walker) || !within(what, 0, 9)) {
      return finding(BEYOND);
    }
    Walker one = present.all[walker];
    if (what == 8) {
      return present.paceOf(one);
    }
    return what == 9 ? present.payOf(one) : one.trait(what);
  }

  public int set(int walker, int what, int v) {
    if (!isThere(walker) || !within(what, 1, 7) || !within(v, 0, mostOfTrait(what))) {
      return finding(BEYOND);
    }
    Walker one = present.all[walker];
    int was = one.trait(what);
    one.giveTrait(what, v);
    return was;
  }

  public int turn(int walker, int kind) {
    if (!isThere(walker) || !within(kind, 0, LAST_KIND)) {
      return finding(BEYOND);
    }
    Walker one = present.all[walker];
    int was = one.kind;
    one.kind = kind;
    return was;
  }

  public int as(int walker, int kind) {
    if (!isThere(walker) || !within(kind, 0, LAST_KIND)) {
      return finding(BEYOND);
    }
    Walker one = present.all[walker];
    return isUnder(one.kind, kind) ? one.reason : finding(KIND);
  }

  // ---- hours

  public int hours(int n) {
    if (!within(n, 1, FAR)) {
      return finding(BEYOND);
    }
    if (present.hour + n > LAST_HOUR) {
      return finding(STATE);
    }
    present.passHours(n);
    return present.fund;
  }

  public int now(int what) {
    switch (what) {
      case 0: return present.hour;
      case 1: return present.fund;
      case 2: return present.penny;
      case 3: return present.rain;
      case 4: return present.sumOf(Walker.PURSE);
      case 5: return present.setWith(Walker.REASON);
      case 6: return present.setWith(Walker.STOPPED);
      case 7: return present.sumOf(Walker.WALKED);
      default: return finding(BEYOND);
    }
  }

  public int on(int walker, int n, int what) {
    if (!isThere(walker) || !within(n, 0, FAR) || !within(what, 0, 2)) {
      return finding(BEYOND);
    }
    lookAhead();
    ahead.passHours(n);
    Walker one = ahead.all[walker];
    if (what == 0) {
      return one.mile;
    }
    return what == 1 ? one.purse : one.reason;
  }

  public int fund(int n) {
    if (!within(n, 0, FAR)) {
      return finding(BEYOND);
    }
    lookAhead();
    ahead.passHours(n);
    return ahead.fund;
  }

  public int empty() {
    lookAhead();
    for (int n = 0; n <= FAR; n++) {
      if (ahead.fund == 0) {
        return n;
      }
      ahead.passHour();
    }
    return finding(NONE);
  }

  public int comes(int walker, int mile) {
    if (!isThere(walker) || !within(mile, 0, LAST_MILE)) {
      return finding(BEYOND);
    }
    lookAhead();
    Walker one = ahead.all[walker];
    for (int n = 0; n <= FAR; n++) {
      if (one.mile == mile) {
        return n;
      }
      ahead.passHour();
    }
    return finding(NONE);
  }

  public int meet(int walker, int other) {
    if (!areTwo(walker, other)) {
      return finding(BEYOND);
    }
    lookAhead();
    Walker one = ahead.all[walker];
    Walker another = ahead.all[other];
    for (int n = 0; n <= FAR; n++) {
      if (one.mile == another.mile) {
        return n;
      }
      ahead.passHour();
    }
    return finding(NONE);
  }

  public int worn(int walker) {
    if (!isThere(walker)) {
      return finding(BEYOND);
    }
    lookAhead();
    Walker one = ahead.all[walker];
    for (int n = 0; n <= FAR; n++) {
      if (one.reason == 0) {
        return n;
      }
      ahead.passHour();
    }
    return finding(NONE);
  }

  // ---- what is best

  public int stop(int n) {
    if (!within(n, 1, NEAREST)) {
      return finding(BEYOND);
    }
    int stopped = present.setWith(Walker.STOPPED);
    for (int many = 0; many <= present.size; many++) {
      for (int set = 0; set < 1 << present.size; set++) {
        if (Integer.bitCount(set) == many && (set & stopped) == 0 && lastsWithout(set, n)) {
          return set;
        }
      }
    }
    return finding(NONE);
  }

  public int penny(int n, int v) {
    if (!within(n, 1, NEAR) || !within(v, 0, MOST_MONEY)) {
      return finding(BEYOND);
    }
    for (int penny = MOST_PENNY; penny >= 0; penny--) {
      lookAhead();
      ahead.penny = penny;
      ahead.passHours(n);
      if (ahead.fund >= v) {
        return penny;
      }
    }
    return finding(NONE);
  }

  public int reason(int walker, int n, int v) {
    if (!isThere(walker) || !within(n, 1, NEAR) || !within(v, 0, MOST_MONEY)) {
      return finding(BEYOND);
    }
    for (int reason = 0; reason <= MOST_REASON; reason++) {
      lookAhead();
      ahead.all[walker].reason = reason;
      if (purseAhead(walker, n) >= v) {
        return reason;
      }
    }
    return finding(NONE);
  }

  public int kind(int walker, int n) {
    if (!isThere(walker) || !within(n, 1, NEAR)) {
      return finding(BEYOND);
    }
    int best = 0;
    int most = -1;
    for (int kind = 0; kind <= LAST_KIND; kind++) {
      lookAhead();
      ahead.all[walker].kind = kind;
      int purse = purseAhead(walker, n);
      if (purse > most) {
        most = purse;
        best = kind;
      }
    }
    return best;
  }

  public int begin(int walker, int n) {
    if (!isThere(walker) || !within(n, 1, NEAR)) {
      return finding(BEYOND);
    }
    int best = 0;
    int most = -1;
    for (int mile = 0; mile <= LAST_MILE; mile++) {
      lookAhead();
      ahead.all[walker].mile = mile;
      ahead.all[walker].walked = 0;
      int purse = purseAhead(walker, n);
      if (purse > most) {
        most = purse;
        best = mile;
      }
    }
    return best;
  }

  public int richest(int n) {
    if (!within(n, 0, FAR)) {
      return finding(BEYOND);
    }
    if (present.size == 0) {
      return finding(NONE);
    }
    lookAhead();
    ahead.passHours(n);
    int best = 0;
    for (int i = 1; i < ahead.size; i++) {
      if (ahead.all[i].purse > ahead.all[best].purse) {
        best = i;
      }
    }
    return best;
  }

  public int rival(int walker, int other, int n) {
    if (!areTwo(walker, other) || !within(n, 1, NEAR)) {
      return finding(BEYOND);
    }
    lookAhead();
    int withIt = purseAhead(walker, n);
    lookAhead();
    ahead.all[other].stopped = 1;
    return purseAhead(walker, n) - withIt;
  }

  public int enough(int n) {
    if (!within(n, 1, NEAREST)) {
      return finding(BEYOND);
    }
    // Nobody's way or REASON hangs on the FUND, so what is asked of a FUND that is
    // too great to be emptied in so few HOURS is what is asked of every FUND.
    lookAhead();
    ahead.fund = MOST_MONEY;
    ahead.passHours(n);
    int least = MOST_MONEY - ahead.fund + 1;
    return least <= MOST_ENOUGH ? least : finding(NONE);
  }

  // ---- the text

  public int feed(int bytes, int n) {
    if (!within(n, 1, 4)) {
      return finding(BEYOND);
    }
    if (tape.length + n > MOST_BYTES) {
      return finding(FULL);
    }
    for (int i = n - 1; i >= 0; i--) {
      tape.append((byte) (bytes >> (8 * i)));
    }
    return tape.length;
  }

  public int wipe() {
    int had = tape.length;
    tape.length = 0;
    return had;
  }

  public int text() {
    // A FAULT must leave the road as it was, so the ITEMS come to a likeness first.
    lookAhead();
    int items = tape.tellOnto(ahead);
    if (items >= 0) {
      present.takeFrom(ahead);
    }
    tape.length = 0;
    return items;
  }

  // ---- sheets

  public int sheet(int s, int bits, int n) {
    if (!isSheet(s) || (bits != 0 && bits != 8 && bits != 16 && bits != 64)) {
      return finding(BEYOND);
    }
    if (n < 0) {
      return finding(SIZE);
    }
    if (n > MOST_NUMBERS) {
      return finding(BEYOND);
    }
    sheets[s].rule(bits, bits == 0 ? 0 : n);
    return sheets[s].size;
  }

  public long write(int s, int i, long v) {
    if (!isSheet(s)) {
      return finding(BEYOND);
    }
    Sheet sheet = sheets[s];
    if (sheet.isMissing()) {
      return finding(MISSING);
    }
    if (!within(i, 0, sheet.size - 1)) {
      return finding(BEYOND);
    }
    long was = sheet.row[i];
    sheet.put(i, v);
    return was;
  }

  public int copy(int s, int from, int t, int to, int n) {
    if (!isSheet(s) || !isSheet(t)) {
      return finding(BEYOND);
    }
    Sheet source = sheets[s];
    Sheet target = sheets[t];
    if (source.isMissing() || target.isMissing()) {
      return finding(MISSING);
    }
    if (source.bits != target.bits) {
      return finding(KIND);
    }
    if (!source.hasPart(from, n) || !target.hasPart(to, n)) {
      return finding(BEYOND);
    }
    System.arraycopy(source.row, from, target.row, to, n);
    return n;
  }

  public int lays(int s) {
    if (!isSheet(s)) {
      return finding(BEYOND);
    }
    Sheet sheet = sheets[s];
    if (sheet.isMissing()) {
      return finding(MISSING);
    }
    int came = 0;
    for (int i = 0; i < sheet.size && i < present.size; i++) {
      long number = sheet.row[i];
      if (number >= 0 && number <= MOST_REASON) {
        present.all[i].reason = (int) number;
        came++;
      }
    }
    return came;
  }

  public int book(int s, int walker) {
    if (!isSheet(s)) {
      return finding(BEYOND);
    }
    Sheet sheet = sheets[s];
    if (sheet.isMissing()) {
      return finding(MISSING);
    }
    if (!isThere(walker)) {
      return finding(BEYOND);
    }
    lookAhead();
    for (int n = 0; n < sheet.size; n++) {
      sheet.put(n, ahead.all[walker].purse);
      ahead.passHour();
    }
    return sheet.size;
  }

  public int read(int s, int walker) {
    if (!isSheet(s)) {
      return finding(BEYOND);
    }
    Sheet sheet = sheets[s];
    if (sheet.isMissing()) {
      return finding(MISSING);
    }
    if (!isThere(walker)) {
      return finding(BEYOND);
    }
    int pairs = 0;
    for (int kind = 0; kind <= LAST_KIND; kind++) {
      for (int tired = 0; tired <= MOST_TIRED_READ; tired++) {
        lookAhead();
        ahead.all[walker].kind = kind;
        ahead.all[walker].tired = tired;
        if (goesBy(sheet, walker)) {
          pairs++;
        }
      }
    }
    return pairs;
  }

  // ---- images

  public int image() {
    kept.takeFrom(present);
    keeps = true;
    return 1;
  }

  public int undo() {
    if (!keeps) {
      return finding(NONE);
    }
    present.takeFrom(kept);
    return present.size;
  }

  public int tear() {
    int was = keeps ? 1 : 0;
    keeps = false;
    return was;
  }

  public int count(int what) {
    switch (what) {
      case 0: return present.size;
      case 1: return tape.length;
      case 2: return present.sumOf(Walker.UP);
      case 3: return present.sumOf(Walker.REASON);
      default: return finding(BEYOND);
    }
  }

  public int status(int which) {
    if (!within(which, -1, FINDINGS - 1)) {
      return finding(BEYOND);
    }
    if (which >= 0) {
      return found[which];
    }
    int sum = 0;
    for (int i = 0; i < FINDINGS; i++) {
      sum += found[i];
    }
    return sum;
  }

  // ---- what the calls share

  /** Every finding of every act goes through here, as status() counts them all. */
  private int finding(int which) {
    found[which]++;
    return FIRST_FINDING - which;
  }

  private static boolean within(int v, int least, int most) {
    return v >= least && v <= most;
  }

  private boolean isThere(int walker) {
    return within(walker, 0, present.size - 1);
  }

  private boolean areTwo(int walker, int other) {
    return isThere(walker) && isThere(other) && walker != other;
  }

  private static boolean isSheet(int s) {
    return within(s, 0, SHEETS - 1);
  }

  private static int mostOfRoad(int what) {
    if (what == 0) {
      return MOST_MONEY;
    }
    return what == 1 ? MOST_PENNY : 1;
  }

  private static int mostOfTrait(int what) {
    switch (what) {
      case Walker.MILE: return LAST_MILE;
      case Walker.REASON: return MOST_REASON;
      case Walker.TIRED: return MOST_TIRED;
      case Walker.WALKED: return LAST_MILE;
      case Walker.PURSE: return MOST_MONEY;
      default: return 1;
    }
  }

  private static boolean isUnder(int kind, int above) {
    if (kind == above || above == WALKER) {
      return true;
    }
    return (kind == CHEAT && above == PEDLAR) || (kind == PILGRIM && above == LAME);
  }

  private void lookAhead() {
    ahead.takeFrom(present);
  }

  private int purseAhead(int walker, int n) {
    ahead.passHours(n);
    return ahead.all[walker].purse;
  }

  private boolean lastsWithout(int set, int n) {
    lookAhead();
    for (int i = 0; i < ahead.size; i++) {
      if ((set >> i & 1) == 1) {
        ahead.all[i].stopped = 1;
      }
    }
    // The FUND never grows by itself: once it is empty, no later HOUR matters.
    for (int h = 0; h < n && ahead.fund > 0; h++) {
      ahead.passHour();
    }
    return ahead.fund > 0;
  }

  private boolean goesBy(Sheet sheet, int walker) {
    for (int n = 0; n < sheet.size; n++) {
      if (ahead.all[walker].mile != sheet.row[n]) {
        return false;
      }
      ahead.passHour();
    }
    return true;
  }

  /** One walker; the numbers of its traits are those of of() and set(). */
  private static final class Walker {
    private static final int MILE = 1;
    private static final int UP = 2;
    private static final int REASON = 3;
    private static final int TIRED = 4;
    private static final int WALKED = 5;
    private static final int PURSE = 6;
    private static final int STOPPED = 7;

    private int kind;
    private int mile;
    private int up;
    private int reason;
    private int tired;
    private int walked;
    private int purse;
    private int stopped;

    private void startAs(int newKind, int newMile) {
      kind = newKind;
      mile = newMile;
      up = 1;
      reason = 5;
      tired = 0;
      walked = 0;
      purse = 0;
      stopped = 0;
    }

    private void becomeLike(Walker other) {
      kind = other.kind;
      mile = other.mile;
      up = other.up;
      reason = other.reason;
      tired = other.tired;
      walked = other.walked;
      purse = other.purse;
      stopped = other.stopped;
    }

    private int trait(int what) {
      switch (what) {
        case MILE: return mile;
        case UP: return up;
        case REASON: return reason;
        case TIRED: return tired;
        case WALKED: return walked;
        case PURSE: return purse;
        case STOPPED: return stopped;
        default: return kind;
      }
    }

    private void giveTrait(int what, int v) {
      switch (what) {
        case MILE: mile = v; break;
        case UP: up = v; break;
        case REASON: reason = v; break;
        case TIRED: tired = v; break;
        case WALKED: walked = v; break;
        case PURSE: purse = v; break;
        case STOPPED: stopped = v; break;
        default: break;
      }
    }

    private int milesToHatch() {
      return up == 1 ? LAST_MILE - mile : mile;
    }
  }

  /** All that an image keeps: the road, its hour and money, and who is on it. */
  private static final class Road {
    private int hour = 0;
    private int fund = 1000;
    private int penny = 1;
    private int rain = 0;
    private int size = 0;
    private final Walker[] all = new Walker[MOST_WALKERS];

    private Road() {
      for (int i = 0; i < MOST_WALKERS; i++) {
        all[i] = new Walker();
      }
    }

    private void takeFrom(Road other) {
      hour = other.hour;
      fund = other.fund;
      penny = other.penny;
      rain = other.rain;
      size = other.size;
      for (int i = 0; i < size; i++) {
        all[i].becomeLike(other.all[i]);
      }
    }

    private boolean isFull() {
      return size >= MOST_WALKERS;
    }

    /** Only for a road that is not full. */
    private Walker join(int kind, int mile) {
      Walker one = all[size];
      one.startAs(kind, mile);
      size++;
      return one;
    }

    private int sumOf(int trait) {
      int sum = 0;
      for (int i = 0; i < size; i++) {
        sum += all[i].trait(trait);
      }
      return sum;
    }

    private int setWith(int trait) {
      int set = 0;
      for (int i = 0; i < size; i++) {
        if (all[i].trait(trait) > 0) {
          set |= 1 << i;
        }
      }
      return set;
    }

    private void passHours(int n) {
      for (int h = 0; h < n; h++) {
        passHour();
      }
    }

    private void passHour() {
      for (int i = 0; i < size; i++) {
        if (all[i].stopped == 0) {
          go(all[i]);
        }
      }
      hour++;
    }

    private void go(Walker one) {
      int went = Math.min(paceOf(one), one.milesToHatch());
      one.mile += one.up == 1 ? went : -went;
      one.walked = Math.min(LAST_MILE, one.walked + went);
      one.tired = Math.min(MOST_TIRED, one.tired + 1);
      if (one.mile == STONE) {
        one.tired = 0;
      }
      if (one.milesToHatch() == 0) {
        arrive(one);
      }
    }

    private void arrive(Walker one) {
      if (one.reason > 0) {
        int paid = Math.min(payOf(one), fund);
        fund -= paid;
        one.purse = Math.min(MOST_MONEY, one.purse + paid);
        one.reason = Math.max(0, one.reason - wearOf(one));
      }
      one.walked = 0;
      one.up = 1 - one.up;
    }

    private int paceOf(Walker one) {
      int asWalker = one.tired > NOT_TIRED_YET ? 2 : 3;
      switch (one.kind) {
        case LOVER: return hasCompany(one) ? asWalker + 1 : asWalker;
        case LAME: return asWalker / 2;
        case CHEAT: return one.reason == 0 ? asWalker + 1 : asWalker;
        case PILGRIM: return asWalker / 2 + rain;
        default: return asWalker;
      }
    }

    private boolean hasCompany(Walker one) {
      int there = 0;
      for (int i = 0; i < size; i++) {
        if (all[i].mile == one.mile) {
          there++;
        }
      }
      // It is one of those itself.
      return there > 1;
    }

    private int payOf(Walker one) {
      int asWalker = one.walked * (penny + rain);
      switch (one.kind) {
        case PEDLAR: return asWalker + 2;
        case LOVER: return 2 * asWalker;
        case LAME: return asWalker + one.walked / 2;
        case CHEAT: return asWalker + 2;
        case PILGRIM: return 0;
        default: return asWalker;
      }
    }

    private int wearOf(Walker one) {
      int asPedlar = hour % 5 == 0 ? 0 : 1;
      switch (one.kind) {
        case PEDLAR: return asPedlar;
        case LAME: return 0;
        case CHEAT: return 2 * asPedlar + 1;
        case PILGRIM: return 0;
        default: return 1;
      }
    }
  }

  /** The bytes of a text, and the reading of them token by token. */
  private static final class Tape {
    private static final int END = 0;
    private static final int WORD = 1;
    private static final int NUMBER = 2;
    private static final int SEMICOLON = 3;
    private static final int NO_TOKEN = 4;
    private static final int MOST_NUMBER = 9999;

    private final byte[] bytes = new byte[MOST_BYTES];
    private int length = 0;
    // The token that is looked at: bytes first to next - 1.
    private int sort = END;
    private int first = 0;
    private int next = 0;
    private int number = 0;

    /** Only for a tape that is not full. */
    private void append(byte b) {
      bytes[length] = b;
      length++;
    }

    /** How many items came to the road, or -1 less the place of the fault: the road is spoilt then. */
    private int tellOnto(Road road) {
      next = 0;
      advance();
      int items = 0;
      // An item takes a byte at least, so there are no more items than bytes.
      while (items < MOST_BYTES && takeItem(road)) {
        items++;
        if (sort == END) {
          return items;
        }
        if (sort != SEMICOLON) {
          break;
        }
        advance();
      }
      return -1 - first;
    }

    /** False, with the faulty token still looked at, where one can't stand. */
    private boolean takeItem(Road road) {
      int kind = kindNamed();
      if (kind >= 0) {
        return takeWalker(road, kind);
      }
      if (takeWord("fund")) {
        road.fund = takeNumber(MOST_NUMBER);
        return road.fund >= 0;
      }
      if (takeWord("penny")) {
        road.penny = takeNumber(MOST_PENNY);
        return road.penny >= 0;
      }
      if (takeWord("rain")) {
        road.rain = 1;
        return true;
      }
      if (takeWord("dry")) {
        road.rain = 0;
        return true;
      }
      return false;
    }

    private boolean takeWalker(Road road, int kind) {
      if (road.isFull()) {
        return false;
      }
      advance();
      Walker one = road.join(kind, 0);
      if (takeWord("at")) {
        one.mile = takeNumber(LAST_MILE);
        if (one.mile < 0) {
          return false;
        }
      }
      if (takeWord("down")) {
        one.up = 0;
      }
      if (takeWord("reason")) {
        one.reason = takeNumber(MOST_REASON);
      }
      return one.reason >= 0;
    }

    private int kindNamed() {
      for (int kind = 0; kind <= LAST_KIND; kind++) {
        if (isWord(nameOf(kind))) {
          return kind;
        }
      }
      return -1;
    }

    private static String nameOf(int kind) {
      switch (kind) {
        case PEDLAR: return "pedlar";
        case LOVER: return "lover";
        case LAME: return "lame";
        case CHEAT: return "cheat";
        case PILGRIM: return "pilgrim";
        default: return "walker";
      }
    }

    private boolean takeWord(String name) {
      if (!isWord(name)) {
        return false;
      }
      advance();
      return true;
    }

    private boolean isWord(String name) {
      if (sort != WORD || next - first != name.length()) {
        return false;
      }
      for (int i = 0; i < name.length(); i++) {
        if (byteAt(first + i) != name.charAt(i)) {
          return false;
        }
      }
      return true;
    }

    /** The number that is looked at, or -1, and then it is looked at still, if it may not be. */
    private int takeNumber(int most) {
      if (sort != NUMBER || number > most) {
        return -1;
      }
      int taken = number;
      advance();
      return taken;
    }

    private void advance() {
      first = next;
      while (first < length && byteAt(first) == ' ') {
        first++;
      }
      next = first;
      if (first >= length) {
        sort = END;
      } else if (isLetter(byteAt(first))) {
        sort = WORD;
        while (next < length && isLetter(byteAt(next))) {
          next++;
        }
      } else if (isDigit(byteAt(first))) {
        sort = NUMBER;
        number = 0;
        while (next < length && isDigit(byteAt(next))) {
          // Held just above the most, lest a long row of digits wrap round to a small number.
          number = Math.min(MOST_NUMBER + 1, 10 * number + byteAt(next) - '0');
          next++;
        }
      } else {
        sort = byteAt(first) == ';' ? SEMICOLON : NO_TOKEN;
        next = first + 1;
      }
    }

    private int byteAt(int place) {
      return place >= 0 && place < length ? bytes[place] & 255 : 0;
    }

    private static boolean isLetter(int b) {
      return b >= 'a' && b <= 'z';
    }

    private static boolean isDigit(int b) {
      return b >= '0' && b <= '9';
    }
  }

  /** A row of numbers of one width; with 0 bits it is missing. */
  private static final class Sheet {
    private final long[] row = new long[MOST_NUMBERS];
    private int bits = 0;
    private int size = 0;

    private void rule(int newBits, int newSize) {
      bits = newBits;
      size = newSize;
      for (int i = 0; i < MOST_NUMBERS; i++) {
        row[i] = 0;
      }
    }

    private boolean isMissing() {
      return bits == 0;
    }

    private boolean hasPart(int from, int n) {
      return from >= 0 && n >= 0 && n <= size && from <= size - n;
    }

    private void put(int i, long v) {
      if (bits == 8) {
        row[i] = (byte) v;
      } else if (bits == 16) {
        row[i] = (short) v;
      } else {
        row[i] = v;
      }
    }
  }
}
