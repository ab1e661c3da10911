import java.lang.management.ManagementFactory;
import java.lang.reflect.Constructor;
import java.lang.reflect.Field;
import java.lang.reflect.Method;
import java.lang.reflect.Modifier;
import java.nio.charset.StandardCharsets;
import java.nio.file.Files;
import java.nio.file.Path;
import java.util.Map;
import java.util.Set;
import java.util.TreeSet;
import java.util.regex.Matcher;
import java.util.regex.Pattern;

/** What of ../shared/LANGUAGE.md can be told from outside: the face, the words, the room that calls take. */
public final class LanguageTest {
  private static final String[] FACE = {
    "int street(int, int)", "int window(int, int)", "int windows(int, int, int)", "int player(int, int, int)",
    "int mend(int, int, int)", "int pay(int, int)", "int of(int, int)", "int harm(int)", "int once(int, int)",
    "int waiting(int, int, int, int)", "int exactly(int, int, int)", "int feed(int, int)", "int law()",
    "int weeks(int, int)", "int week(int, int)", "int best(int, int, int)", "int called(int, int)", "int off(int, int)",
    "int fund(int, int, int)", "int fetch(int)", "int worse(int)", "int lovers(int, int)", "int judge()", "int undo()",
    "int redo()", "int body(int)", "int act(int, int, int)", "int trace(int)", "int keep(int, int)",
    "int row(int, int, int)", "int put(int, int, long)", "long element(int, int)", "int shift(int, int, int, int, int)",
    "int taken(int, int)", "int count(int)"};
  private static final Map<String, Integer> CONSTANTS =
      Map.of("BAD", -1, "NOT", -2, "FULL", -3, "STATE", -5, "VOID", -2000000000);
  private static int wrong = 0;

  private static void must(boolean holds, String what) {
    if (holds) return;
    wrong++;
    System.out.println("not so: " + what);
  }

  public static void main(String[] args) throws Exception {
    face();
    inside(PaidElsewhere.class);
    words(new String(Files.readAllBytes(Path.of(args[0])), StandardCharsets.ISO_8859_1));
    room();
    if (wrong > 0) System.exit(1);
    System.out.println("the class keeps to the language, as far as this looks");
  }

  private static void face() throws Exception {
    Class<?> c = PaidElsewhere.class;
    must(Modifier.isPublic(c.getModifiers()) && Modifier.isFinal(c.getModifiers()), "the class is public and final");
    Set<String> due = new TreeSet<>(Set.of(FACE)), found = new TreeSet<>(), hidden = new TreeSet<>();
    for (Method m : c.getDeclaredMethods()) {
      if (!Modifier.isPublic(m.getModifiers())) {
        must(Modifier.isPrivate(m.getModifiers()), m + " is private");
        hidden.add(m.getName());
        continue;
      }
      StringBuilder told = new StringBuilder(m.getReturnType() + " " + m.getName() + "(");
      for (Class<?> p : m.getParameterTypes()) told.append(told.toString().endsWith("(") ? "" : ", ").append(p);
      found.add(told + ")");
    }
    must(due.equals(found), "the public methods are those of the face: " + found);
    for (String call : FACE) must(!hidden.contains(call.replaceAll("^\\w+ |\\(.*", "")), "no private method is named as " + call);
    Constructor<?>[] makers = c.getDeclaredConstructors();
    must(makers.length == 1 && makers[0].getParameterCount() == 0 && Modifier.isPublic(makers[0].getModifiers()),
        "one public constructor without parameters");
    int constants = 0;
    for (Field f : c.getDeclaredFields()) {
      if (!Modifier.isPublic(f.getModifiers())) {
        must(Modifier.isPrivate(f.getModifiers()), f + " is private");
        continue;
      }
      constants++;
      must(CONSTANTS.containsKey(f.getName()) && f.getInt(null) == CONSTANTS.get(f.getName()), f + " is as told");
    }
    must(constants == CONSTANTS.size(), "there are no constants but those of the face");
  }

  private static void inside(Class<?> outer) {
    must(outer.getDeclaredClasses().length <= 12, "at most twelve classes");
    for (Class<?> c : outer.getDeclaredClasses()) {
      must(Modifier.isStatic(c.getModifiers()) && !Modifier.isPublic(c.getModifiers()), c + " is static and not public");
      int fields = 0;
      for (Field f : c.getDeclaredFields()) {
        boolean isStatic = Modifier.isStatic(f.getModifiers());
        must(!isStatic || Modifier.isFinal(f.getModifiers()), f + " is final");
        if (!isStatic) fields++;
      }
      must(fields <= 20, c + " has at most twenty fields");
      for (Method m : c.getDeclaredMethods()) must(m.getParameterCount() <= 7, m + " takes at most seven");
    }
  }

  private static void words(String source) {
    for (int i = 0; i < source.length(); i++) must(source.charAt(i) < 127, "sign " + i + " is plain");
    String bare = source.replaceAll("(?s)/\\*.*?\\*/|//[^\\n]*", " ").replaceAll("'[^']'", "0").replaceAll("\"[^\"]*\"", "T");
    String[] ruledOut = {"package", "import", "throw", "throws", "try", "catch", "finally", "synchronized", "assert",
        "protected", "yield", "var", "double", "float", "hashCode", "equals", "toString", "volatile", "native"};
    for (String word : ruledOut) must(!Pattern.compile("\\b" + word + "\\b").matcher(bare).find(), "no " + word);
    for (String sign : new String[] {"->", "::", "Exact", "@"}) must(!bare.contains(sign), "no " + sign);
    Matcher library = Pattern.compile("\\b(Math|System|Integer|Long|Arrays)\\.(\\w+)").matcher(bare);
    Set<String> allowed = Set.of("min", "max", "arraycopy");
    while (library.find()) must(allowed.contains(library.group(2)), library.group() + " is allowed");
    // all room is made in constructors and fields
    Matcher makes = Pattern.compile("(?m)^(.*)\\bnew \\w+").matcher(bare);
    while (makes.find()) {
      String ahead = makes.group(1).trim();
      must(ahead.matches("private final \\S+ \\w+ =|\\w+ ="), "made ahead of all calls: " + ahead);
    }
    methodLengths(bare);
  }

  private static void methodLengths(String bare) {
    String[] lines = bare.split("\n");
    int began = -1;
    String indent = "";
    for (int i = 0; i < lines.length; i++) {
      if (began < 0 && lines[i].matches("\\s{2,4}[\\w\\[\\] ]+\\(.*\\) \\{")) {
        began = i;
        indent = lines[i].replaceAll("\\S.*", "");
      } else if (began >= 0 && lines[i].equals(indent + "}")) {
        must(i - began < 60, "a method stays under sixty lines: " + lines[began].trim());
        began = -1;
      }
    }
  }

  /** The dearest calls, after some to warm up: they make nothing. */
  private static void room() {
    com.sun.management.ThreadMXBean meter = (com.sun.management.ThreadMXBean) ManagementFactory.getThreadMXBean();
    PaidElsewhere x = new PaidElsewhere();
    for (int i = 0; i < 6; i++) x.street(50 + i, i);
    for (int i = 0; i < 30; i++) x.window(100 * (i % 6) + i, 1000 * (3 * i) + i);
    for (int i = 0; i < 8; i++) x.player(100 * i + i, 10 * i, i % 6);
    for (int i = 0; i < 8; i++) x.body(i);
    dear(x);
    long before = meter.getCurrentThreadAllocatedBytes();
    for (int i = 0; i < 20; i++) dear(x);
    long taken = meter.getCurrentThreadAllocatedBytes() - before;
    must(taken < 100000, "calls make nothing, but took " + taken + " bytes");
  }

  private static void dear(PaidElsewhere x) {
    for (int i = 0; i < 30; i++) x.feed(i < 29 ? 4 : 3, 't' + ('-' << 8) + ('n' << 16) + ('+' << 24));
    must(x.law() == 1, "the long text is a law");
    x.weeks(60, 1);
    x.best(0, 60, 0);
    x.called(1, 60);
    x.off(2, 60);
    x.fund(11, 999, -1);
    x.waiting(11, 99, 5, 602);
    x.exactly(11, 99, 60);
    x.act(7, 3, 5);
    x.row(0, 3, 60);
    x.shift(0, 0, 0, 1, 59);
    x.mend(0, 0, 5);
    x.mend(0, 0, 6);
    x.undo();
  }
}
