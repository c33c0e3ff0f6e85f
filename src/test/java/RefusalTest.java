import java.lang.reflect.Method;
import java.lang.reflect.Modifier;
import java.util.ArrayList;
import java.util.HashMap;
import java.util.List;
import java.util.Map;

/**
 * Each finding of each act, in the order in which the document asks for them; and that a call that answers one, or
 * that only looks, changes nothing but status(): it is made on one of two that are alike, and both are asked for all
 * that can be asked.
 */
public final class RefusalTest {
  private static final String[] FINDINGS = {"BEYOND", "FULL", "KIND", "NONE", "STATE", "MISSING", "SIZE"};
  private static final Map<String, Method> METHODS = new HashMap<>();

  // On the full road: 8 WALKERS of KINDS 0 to 5, 0 and 1; sheets of 8, 16 and 8 bits with 3, 4 and 5 numbers, the last
  // one MISSING; 119 bytes; an image. The order of findings is where a call is wrong in more than one way.
  private static final String[] ON_FULL = {
    "road(-1, 0) BEYOND", "road(3, 0) BEYOND", "road(0, -1) BEYOND", "road(0, 1000000) BEYOND", "road(1, -1) BEYOND",
    "road(1, 21) BEYOND", "road(2, -1) BEYOND", "road(2, 2) BEYOND",
    "at(-1) BEYOND", "at(13) BEYOND",
    "walker(0, 0) FULL", "walker(5, 12) FULL", "walker(-1, 0) BEYOND", "walker(6, 0) BEYOND", "walker(0, -1) BEYOND",
    "walker(0, 13) BEYOND",
    "of(-1, 0) BEYOND", "of(8, 0) BEYOND", "of(0, -1) BEYOND", "of(0, 10) BEYOND",
    "set(-1, 1, 1) BEYOND", "set(8, 1, 1) BEYOND", "set(0, 0, 1) BEYOND", "set(0, 8, 1) BEYOND", "set(0, 9, 1) BEYOND",
    "set(0, -1, 1) BEYOND", "set(0, 1, -1) BEYOND", "set(0, 1, 13) BEYOND", "set(0, 2, -1) BEYOND",
    "set(0, 2, 2) BEYOND", "set(0, 3, -1) BEYOND", "set(0, 3, 10) BEYOND", "set(0, 4, -1) BEYOND",
    "set(0, 4, 100) BEYOND", "set(0, 5, -1) BEYOND", "set(0, 5, 13) BEYOND", "set(0, 6, -1) BEYOND",
    "set(0, 6, 1000000) BEYOND", "set(0, 7, -1) BEYOND", "set(0, 7, 2) BEYOND",
    "turn(-1, 0) BEYOND", "turn(8, 0) BEYOND", "turn(0, -1) BEYOND", "turn(0, 6) BEYOND",
    "as(-1, 0) BEYOND", "as(8, 1) BEYOND", "as(0, -1) BEYOND", "as(0, 6) BEYOND",
    "as(0, 1) KIND", "as(0, 2) KIND", "as(0, 3) KIND", "as(0, 4) KIND", "as(0, 5) KIND", "as(1, 2) KIND",
    "as(1, 3) KIND", "as(1, 4) KIND", "as(1, 5) KIND", "as(2, 1) KIND", "as(2, 3) KIND", "as(2, 4) KIND",
    "as(2, 5) KIND", "as(3, 1) KIND", "as(3, 2) KIND", "as(3, 4) KIND", "as(3, 5) KIND", "as(4, 2) KIND",
    "as(4, 3) KIND", "as(4, 5) KIND", "as(5, 1) KIND", "as(5, 2) KIND", "as(5, 4) KIND",
    "hours(-1) BEYOND", "hours(0) BEYOND", "hours(201) BEYOND",
    "now(-1) BEYOND", "now(8) BEYOND",
    "on(-1, 1, 0) BEYOND", "on(8, 1, 0) BEYOND", "on(0, -1, 0) BEYOND", "on(0, 201, 0) BEYOND", "on(0, 1, -1) BEYOND",
    "on(0, 1, 3) BEYOND",
    "fund(-1) BEYOND", "fund(201) BEYOND",
    "empty() NONE",
    "comes(-1, 0) BEYOND", "comes(8, 0) BEYOND", "comes(0, -1) BEYOND", "comes(0, 13) BEYOND", "comes(6, 7) NONE",
    "meet(-1, 0) BEYOND", "meet(8, 0) BEYOND", "meet(0, -1) BEYOND", "meet(0, 8) BEYOND", "meet(0, 0) BEYOND",
    "meet(7, 7) BEYOND", "meet(6, 7) NONE",
    "worn(-1) BEYOND", "worn(8) BEYOND", "worn(3) NONE", "worn(6) NONE",
    "stop(-1) BEYOND", "stop(0) BEYOND", "stop(61) BEYOND",
    "penny(0, 0) BEYOND", "penny(101, 0) BEYOND", "penny(1, -1) BEYOND", "penny(1, 1000000) BEYOND",
    "penny(1, 999999) NONE",
    "reason(-1, 1, 0) BEYOND", "reason(8, 1, 0) BEYOND", "reason(0, 0, 0) BEYOND", "reason(0, 101, 0) BEYOND",
    "reason(0, 1, -1) BEYOND", "reason(0, 1, 1000000) BEYOND", "reason(0, 1, 999999) NONE",
    "kind(-1, 1) BEYOND", "kind(8, 1) BEYOND", "kind(0, 0) BEYOND", "kind(0, 101) BEYOND",
    "begin(-1, 1) BEYOND", "begin(8, 1) BEYOND", "begin(0, 0) BEYOND", "begin(0, 101) BEYOND",
    "richest(-1) BEYOND", "richest(201) BEYOND",
    "rival(-1, 0, 1) BEYOND", "rival(8, 0, 1) BEYOND", "rival(0, -1, 1) BEYOND", "rival(0, 8, 1) BEYOND",
    "rival(3, 3, 1) BEYOND", "rival(0, 1, 0) BEYOND", "rival(0, 1, 101) BEYOND",
    "enough(-1) BEYOND", "enough(0) BEYOND", "enough(61) BEYOND", "enough(60) NONE",
    "feed(65, 0) BEYOND", "feed(65, -1) BEYOND", "feed(65, 5) BEYOND", "feed(65, 2) FULL", "feed(65, 4) FULL",
    "sheet(-1, 8, 1) BEYOND", "sheet(4, 8, 1) BEYOND", "sheet(0, 1, 1) BEYOND", "sheet(0, 32, 1) BEYOND",
    "sheet(0, -8, 1) BEYOND", "sheet(0, 8, -1) SIZE", "sheet(0, 16, 41) BEYOND", "sheet(0, 64, -1) SIZE",
    "sheet(0, 0, -1) SIZE", "sheet(0, 0, 41) BEYOND", "sheet(-1, 8, -1) BEYOND", "sheet(4, 0, -1) BEYOND",
    "sheet(0, 9, -1) BEYOND", "sheet(0, 9, 41) BEYOND",
    "write(-1, 0, 7) BEYOND", "write(4, 0, 7) BEYOND", "write(3, 0, 7) MISSING", "write(3, -1, 7) MISSING",
    "write(3, 40, 7) MISSING", "write(0, -1, 7) BEYOND", "write(0, 3, 7) BEYOND", "write(4, -1, 7) BEYOND",
    "copy(-1, 0, 0, 0, 1) BEYOND", "copy(4, 0, 0, 0, 1) BEYOND", "copy(0, 0, -1, 0, 1) BEYOND",
    "copy(0, 0, 4, 0, 1) BEYOND", "copy(3, 0, 4, 0, 1) BEYOND", "copy(4, 0, 3, 0, 1) BEYOND",
    "copy(3, 0, 0, 0, 1) MISSING", "copy(0, 0, 3, 0, 1) MISSING", "copy(3, 0, 3, 0, 0) MISSING",
    "copy(3, -1, 1, 0, 1) MISSING", "copy(1, 0, 3, 0, -1) MISSING",
    "copy(0, 0, 1, 0, 1) KIND", "copy(1, 0, 2, 0, 0) KIND", "copy(0, -1, 1, 0, 1) KIND", "copy(0, 0, 1, 99, 1) KIND",
    "copy(0, 0, 1, 0, -1) KIND",
    "copy(0, 0, 2, 0, 4) BEYOND", "copy(0, 1, 2, 0, 3) BEYOND", "copy(2, 0, 0, 0, 4) BEYOND",
    "copy(2, 0, 0, 1, 3) BEYOND", "copy(0, -1, 2, 0, 1) BEYOND", "copy(0, 0, 2, -1, 1) BEYOND",
    "copy(0, 1, 2, 1, -1) BEYOND", "copy(0, 0, 2, 3, 3) BEYOND", "copy(0, 3, 2, 0, 1) BEYOND",
    "copy(0, 2147483647, 2, 0, 1) BEYOND", "copy(0, 1, 2, 1, 2147483647) BEYOND",
    "lays(-1) BEYOND", "lays(4) BEYOND", "lays(3) MISSING",
    "book(-1, 0) BEYOND", "book(4, 8) BEYOND", "book(3, 0) MISSING", "book(3, 8) MISSING", "book(3, -1) MISSING",
    "book(0, 8) BEYOND", "book(0, -1) BEYOND",
    "read(-1, 0) BEYOND", "read(4, 8) BEYOND", "read(3, 0) MISSING", "read(3, 8) MISSING", "read(3, -1) MISSING",
    "read(0, 8) BEYOND", "read(0, -1) BEYOND",
    "count(-1) BEYOND", "count(4) BEYOND",
    "status(-2) BEYOND", "status(7) BEYOND"};

  // On the bare road there is nobody, no sheet, no image, and 2 bytes.
  private static final String[] ON_BARE = {
    "of(0, 0) BEYOND", "set(0, 1, 1) BEYOND", "turn(0, 0) BEYOND", "as(0, 0) BEYOND", "on(0, 0, 0) BEYOND",
    "comes(0, 0) BEYOND", "meet(0, 1) BEYOND", "meet(0, 0) BEYOND", "worn(0) BEYOND", "reason(0, 1, 0) BEYOND",
    "kind(0, 1) BEYOND", "begin(0, 1) BEYOND", "rival(0, 1, 1) BEYOND", "empty() NONE", "richest(0) NONE",
    "richest(200) NONE", "richest(-1) BEYOND", "richest(201) BEYOND", "penny(1, 1001) NONE", "penny(0, 1001) BEYOND",
    "undo() NONE", "lays(0) MISSING", "book(0, 0) MISSING", "read(3, 0) MISSING", "write(0, 0, 0) MISSING",
    "copy(0, 0, 1, 0, 0) MISSING", "sheet(0, 8, -1) SIZE", "sheet(0, 8, 41) BEYOND", "walker(6, 0) BEYOND",
    "feed(65, 5) BEYOND"};

  // On the poor road the FUND is 0.
  private static final String[] ON_POOR = {
    "stop(1) NONE", "stop(60) NONE", "stop(61) BEYOND", "stop(0) BEYOND", "penny(1, 1) NONE", "penny(100, 1) NONE"};

  // On the late road HOUR is 99800.
  private static final String[] ON_LATE = {
    "hours(200) STATE", "hours(201) BEYOND", "hours(0) BEYOND", "hours(-1) BEYOND"};

  // These answer no finding on the full road, at the very ends of what may be asked, and only look.
  private static final String[] LOOKS = {
    "at(0)", "at(12)", "of(0, 0)", "of(7, 9)", "as(0, 0)", "as(1, 0)", "as(1, 1)", "as(2, 0)", "as(2, 2)", "as(3, 0)",
    "as(3, 3)", "as(4, 0)", "as(4, 1)", "as(4, 4)", "as(5, 0)", "as(5, 3)", "as(5, 5)", "now(0)", "now(7)",
    "on(0, 0, 0)", "on(7, 200, 2)", "fund(0)", "fund(200)", "comes(0, 0)", "comes(0, 12)", "meet(0, 3)", "meet(3, 0)",
    "meet(3, 7)", "meet(7, 3)",
    "worn(0)", "stop(1)", "stop(60)", "penny(1, 0)", "penny(100, 0)", "reason(0, 1, 0)", "reason(7, 100, 0)",
    "kind(0, 1)", "kind(7, 100)", "begin(0, 1)", "begin(7, 100)", "richest(0)", "richest(200)", "rival(0, 7, 1)",
    "rival(7, 0, 100)", "enough(1)", "read(0, 0)", "read(2, 7)", "count(0)", "count(3)", "status(-1)", "status(6)",
    "copy(0, 3, 2, 5, 0)", "copy(2, 5, 0, 3, 0)", "copy(1, 0, 1, 0, 4)"};

  public static void main(String[] args) throws Exception {
    for (Method method : PennyRoad.class.getDeclaredMethods()) {
      if (Modifier.isPublic(method.getModifiers())) {
        METHODS.put(method.getName(), method);
      }
    }
    refuseAll("full", ON_FULL);
    refuseAll("bare", ON_BARE);
    refuseAll("poor", ON_POOR);
    for (String row : ON_LATE) {
      int gap = row.lastIndexOf(' ');
      refusedLate(row.substring(0, gap), row.substring(gap + 1));
    }
    for (String call : LOOKS) {
      looks(call);
    }
    everyActIsHere();
    Check.end();
  }

  private static void refuseAll(String road, String[] rows) throws Exception {
    for (String row : rows) {
      int gap = row.lastIndexOf(' ');
      refused(road, row.substring(0, gap), row.substring(gap + 1));
    }
  }

  private static void refused(String road, String call, String finding) throws Exception {
    int which = List.of(FINDINGS).indexOf(finding);
    PennyRoad asked = make(road);
    PennyRoad twin = make(road);
    int[] before = statuses(asked);
    Check.due(road + ": " + call + " is " + finding, ask(asked, call), -1000000001 - which);
    int[] after = statuses(asked);
    for (int i = 0; i < before.length; i++) {
      int more = i == 0 || i == which + 1 ? 1 : 0;
      Check.due(road + ": " + call + ", status(" + (i - 1) + ")", after[i], before[i] + more);
    }
    alike(road + ": " + call, asked, twin);
  }

  /** To be so late takes 499 of the 512 calls that an object is good for: few are left to ask with. */
  private static void refusedLate(String call, String finding) throws Exception {
    int which = List.of(FINDINGS).indexOf(finding);
    PennyRoad x = new PennyRoad();
    Roads.pass(x, 99800);
    Check.due("late: " + call + " is " + finding, ask(x, call), -1000000001 - which);
    Check.due("late: " + call + ", status(-1)", x.status(-1), 1);
    Check.due("late: " + call + ", status(" + which + ")", x.status(which), 1);
    Check.due("late: " + call + " changes no HOUR", x.now(0), 99800);
    Check.due("late: " + call + " changes no FUND", x.now(1), 1000);
    Check.due("late: HOURS to the last", x.hours(199), 1000);
    Check.due("late: the last HOUR", x.now(0), 99999);
  }

  private static void looks(String call) throws Exception {
    PennyRoad asked = make("full");
    PennyRoad twin = make("full");
    Check.holds("full: " + call + " is no finding", ask(asked, call) > -1000000001);
    Check.due("full: " + call + ", no finding counted", asked.status(-1), twin.status(-1));
    alike("full: " + call, asked, twin);
  }

  private static void alike(String when, PennyRoad asked, PennyRoad twin) {
    List<Long> of = probe(asked);
    List<Long> ofTwin = probe(twin);
    for (int i = 0; i < ofTwin.size(); i++) {
      Check.due(when + " changes nothing, probe " + i, of.get(i), ofTwin.get(i));
    }
  }

  private static long ask(PennyRoad x, String call) throws Exception {
    int open = call.indexOf('(');
    Method method = METHODS.get(call.substring(0, open));
    String inside = call.substring(open + 1, call.length() - 1);
    String[] parts = inside.isEmpty() ? new String[0] : inside.split(", ");
    Object[] args = new Object[parts.length];
    for (int i = 0; i < args.length; i++) {
      if (method.getParameterTypes()[i] == long.class) {
        args[i] = Long.valueOf(parts[i]);
      } else {
        args[i] = Integer.valueOf(parts[i]);
      }
    }
    return ((Number) method.invoke(x, args)).longValue();
  }

  private static int[] statuses(PennyRoad x) {
    int[] all = new int[8];
    for (int which = -1; which < 7; which++) {
      all[which + 1] = x.status(which);
    }
    return all;
  }

  private static PennyRoad make(String road) {
    switch (road) {
      case "full": return full();
      case "poor": return poor();
      default: return bare();
    }
  }

  private static PennyRoad bare() {
    PennyRoad x = new PennyRoad();
    x.feed(0x6472, 2);
    return x;
  }

  private static PennyRoad poor() {
    PennyRoad x = Roads.of(0, 12, 1, 5, 0, 7);
    x.road(0, 0);
    x.image();
    return x;
  }

  private static PennyRoad full() {
    PennyRoad x = new PennyRoad();
    Roads.add(x, 2, 5, 0, 3, 2, 1);
    x.hours(3);
    x.image();
    x.turn(0, 0);
    for (int i = 1; i < 8; i++) {
      Roads.add(x, i % 6, i, i % 2, 9 - i, 10 + i, i);
      x.set(i, 6, 100 * i);
    }
    // Two that never go, at MILES of their own, with a REASON each.
    x.set(6, 7, 1);
    x.set(7, 7, 1);
    x.set(7, 3, 1);
    x.road(0, 9999);
    x.road(1, 17);
    x.road(2, 1);
    x.sheet(0, 8, 3);
    x.sheet(1, 16, 4);
    x.sheet(2, 8, 5);
    for (int i = 0; i < 3; i++) {
      x.write(0, i, 11 + i);
      x.write(1, i, 21 + i);
      x.write(2, i + 2, 31 + i);
    }
    for (int i = 0; i < 29; i++) {
      x.feed(0x6472793B, 4);
    }
    x.feed(0x647279, 3);
    return x;
  }

  /** All that can be asked of it, within the calls that one object is good for. */
  private static List<Long> probe(PennyRoad x) {
    List<Long> all = new ArrayList<>();
    probeRoad(x, all);
    all.add((long) x.fund(7));
    for (int s = 0; s < 4; s++) {
      for (int t = 0; t < s; t++) {
        all.add((long) x.copy(s, 0, t, 0, 0));
      }
      for (int i = 0; i < 6; i++) {
        all.add(x.write(s, i, 0));
      }
    }
    all.add((long) x.text());
    all.add((long) x.undo());
    probeRoad(x, all);
    all.add((long) x.tear());
    return all;
  }

  private static void probeRoad(PennyRoad x, List<Long> all) {
    for (int what = 0; what < 8; what++) {
      all.add((long) x.now(what));
    }
    for (int what = 0; what < 4; what++) {
      all.add((long) x.count(what));
    }
    for (int i = 0; i < 9; i++) {
      for (int what = 0; what < 8; what++) {
        all.add((long) x.of(i, what));
      }
    }
  }

  private static void everyActIsHere() {
    StringBuilder all = new StringBuilder();
    for (String[] rows : new String[][] {ON_FULL, ON_BARE, ON_POOR, ON_LATE}) {
      for (String row : rows) {
        all.append(' ').append(row);
      }
    }
    for (String name : METHODS.keySet()) {
      boolean hasFindings = !List.of("wipe", "text", "image", "tear").contains(name);
      Check.holds("a refusal of " + name, !hasFindings || all.indexOf(" " + name + "(") >= 0);
    }
  }
}
