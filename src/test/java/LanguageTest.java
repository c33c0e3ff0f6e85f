import java.io.IOException;
import java.lang.reflect.Field;
import java.lang.reflect.Member;
import java.lang.reflect.Method;
import java.lang.reflect.Modifier;
import java.nio.file.Files;
import java.nio.file.Path;
import java.util.Arrays;
import java.util.Set;
import java.util.TreeSet;
import java.util.regex.Matcher;
import java.util.regex.Pattern;

/** What of ../shared/LANGUAGE.md can be seen by a machine; the argument is the folder of the project. */
public final class LanguageTest {
  private static final String FACE = "road at walker of set turn as hours now on fund empty comes meet worn stop penny"
      + " reason kind begin richest rival enough feed wipe text sheet write copy lays book read image undo tear count"
      + " status";
  private static final String[] FORBIDDEN = {
    "\\bthrow\\b", "\\bthrows\\b", "\\btry\\b", "\\bcatch\\b", "\\bsynchronized\\b", "\\bassert\\b", "\\bimport\\b",
    "\\bpackage\\b", "\\bprotected\\b", "->", "::", "\\w+Exact\\b", "\\bdouble\\b", "\\bfloat\\b",
    "\\bSystem\\.(?!arraycopy)", "\\bstatic\\s*\\{", "\\bgoto\\b"};
  private static final Set<String> LIBRARY = Set.of("Math.min", "Math.max", "Integer.bitCount", "System.arraycopy");
  private static final int LONGEST_METHOD = 60;

  public static void main(String[] args) throws IOException {
    Path root = Path.of(args.length > 0 ? args[0] : ".");
    face();
    classesInside();
    source(Files.readString(root.resolve("src/main/java/PennyRoad.java")));
    Check.end();
  }

  private static void face() {
    Set<String> open = new TreeSet<>();
    Set<String> hidden = new TreeSet<>();
    for (Method method : PennyRoad.class.getDeclaredMethods()) {
      boolean isPublic = Modifier.isPublic(method.getModifiers());
      Check.holds("1: " + method + " is public or private", isPublic || Modifier.isPrivate(method.getModifiers()));
      (isPublic ? open : hidden).add(method.getName());
    }
    Check.holds("1: the face is " + open, open.equals(new TreeSet<>(Arrays.asList(FACE.split(" ")))));
    Check.holds("1: the class is public and final",
        Modifier.isPublic(PennyRoad.class.getModifiers()) && Modifier.isFinal(PennyRoad.class.getModifiers()));
    Check.due("1: constructors", PennyRoad.class.getDeclaredConstructors().length, 1);
    for (Class<?> inside : PennyRoad.class.getDeclaredClasses()) {
      for (Method method : inside.getDeclaredMethods()) {
        hidden.add(method.getName());
      }
    }
    hidden.retainAll(open);
    Check.holds("1: names borne twice " + hidden, hidden.isEmpty());
  }

  private static void classesInside() {
    Class<?>[] inside = PennyRoad.class.getDeclaredClasses();
    Check.holds("11: at most twelve classes", inside.length < 12);
    members(PennyRoad.class);
    for (Class<?> one : inside) {
      Check.holds("2: " + one + " is static", Modifier.isStatic(one.getModifiers()));
      Check.holds("1: " + one + " is not public", !Modifier.isPublic(one.getModifiers()));
      members(one);
    }
  }

  private static void members(Class<?> one) {
    int fields = 0;
    for (Field field : one.getDeclaredFields()) {
      Check.holds("1: " + field + " is private", isPrivate(field));
      if (Modifier.isStatic(field.getModifiers())) {
        Check.holds("5: " + field + " is final", Modifier.isFinal(field.getModifiers()));
      } else {
        fields++;
      }
    }
    Check.holds("11: fields of " + one, fields <= 20);
    for (Method method : one.getDeclaredMethods()) {
      Check.holds("11: parameters of " + method, method.getParameterCount() <= 7);
    }
  }

  private static boolean isPrivate(Member member) {
    return Modifier.isPrivate(member.getModifiers());
  }

  private static void source(String text) {
    String code = text.replaceAll("\"[^\"\n]*\"", "\"\"").replaceAll("(?s)/\\*.*?\\*/", "").replaceAll("//[^\n]*", "");
    for (String pattern : FORBIDDEN) {
      Matcher found = Pattern.compile(pattern).matcher(code);
      Check.holds("the source has '" + pattern + "'", !found.find());
    }
    Matcher called = Pattern.compile("\\b[A-Z]\\w*\\.[a-z]\\w*(?=\\()").matcher(code);
    while (called.find()) {
      Check.holds("4: the library: " + called.group(), LIBRARY.contains(called.group()));
    }
    Check.holds("the source is plain ASCII", text.chars().allMatch(c -> c < 128));
    int start = 0;
    String[] lines = text.split("\n");
    for (int i = 0; i < lines.length; i++) {
      if (lines[i].matches(" {2,4}(public|private) .*\\{")) {
        start = i;
      }
      boolean ends = lines[i].matches(" {2,4}\\}");
      boolean isClass = lines[start].contains(" class ");
      Check.holds("11: the method at line " + (start + 1), !ends || isClass || i - start < LONGEST_METHOD);
    }
  }
}
