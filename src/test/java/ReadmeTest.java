import java.io.IOException;
import java.lang.reflect.Method;
import java.lang.reflect.Modifier;
import java.nio.charset.StandardCharsets;
import java.nio.file.DirectoryStream;
import java.nio.file.Files;
import java.nio.file.Path;
import java.util.Set;
import java.util.TreeSet;
import java.util.regex.Matcher;
import java.util.regex.Pattern;

/** What README.md says: the calls that it shows, made in their order, and the tests and classes that it names. */
public final class ReadmeTest {
  private static final Pattern SHOWN = Pattern.compile("x\\.(\\w+)\\(([-\\d, ]*)\\); +// (-?\\d+)(: .+)?");
  private static int wrong = 0;

  private static void must(boolean holds, String what) {
    if (holds) return;
    wrong++;
    System.out.println("not so: " + what);
  }

  public static void main(String[] args) throws Exception {
    String page = new String(Files.readAllBytes(Path.of("README.md")), StandardCharsets.UTF_8);
    callsShown(page);
    testsNamed(page);
    classesNamed(page);
    must(Files.isExecutable(Path.of(".ci/run")), ".ci/run stands and can be run");
    if (wrong > 0) System.exit(1);
    System.out.println("README.md says what is so");
  }

  private static void callsShown(String page) throws ReflectiveOperationException {
    PaidElsewhere x = new PaidElsewhere();
    Set<String> shown = new TreeSet<>(), face = new TreeSet<>();
    for (String line : page.split("\n")) {
      if (!line.startsWith("x.")) continue;
      Matcher call = SHOWN.matcher(line);
      must(call.matches(), "a call and its answer: " + line);
      if (!call.matches()) continue;
      shown.add(call.group(1));
      long answer = answer(x, call.group(1), call.group(2));
      must(answer == Long.parseLong(call.group(3)), line + " (it answers " + answer + ")");
    }
    for (Method m : PaidElsewhere.class.getDeclaredMethods()) if (Modifier.isPublic(m.getModifiers())) face.add(m.getName());
    must(shown.equals(face), "the calls shown " + shown + " are those of the face " + face);
  }

  private static long answer(PaidElsewhere x, String name, String told) throws ReflectiveOperationException {
    String[] numbers = told.isEmpty() ? new String[0] : told.split(", *");
    for (Method m : PaidElsewhere.class.getMethods()) {
      if (!m.getName().equals(name) || m.getParameterCount() != numbers.length) continue;
      Object[] values = new Object[numbers.length];
      for (int i = 0; i < values.length; i++) {
        boolean isLong = m.getParameterTypes()[i] == long.class;
        values[i] = isLong ? (Object) Long.valueOf(numbers[i]) : (Object) Integer.valueOf(numbers[i]);
      }
      return ((Number) m.invoke(x, values)).longValue();
    }
    must(false, "there is a call " + name + "(" + told + ")");
    return 0;
  }

  private static Set<String> found(String page, String pattern) {
    Set<String> names = new TreeSet<>();
    Matcher name = Pattern.compile(pattern).matcher(page);
    while (name.find()) names.add(name.group(1));
    return names;
  }

  private static void testsNamed(String page) throws IOException {
    Set<String> there = new TreeSet<>();
    try (DirectoryStream<Path> files = Files.newDirectoryStream(Path.of("src/test/java"), "*Test.java")) {
      for (Path file : files) there.add(file.getFileName().toString().replace(".java", ""));
    }
    Set<String> named = found(page, "`(\\w+Test)`");
    must(named.equals(there), "the tests named " + named + " are those that there are " + there);
    for (String path : found(page, "((?:src|\\.\\./shared)/[\\w/.]+\\w)")) must(Files.exists(Path.of(path)), path + " is there");
  }

  private static void classesNamed(String page) {
    Set<String> named = found(page.substring(page.indexOf("| class inside |")), "(?m)^\\| `(\\w+)` \\|"), there = new TreeSet<>();
    for (Class<?> c : PaidElsewhere.class.getDeclaredClasses()) there.add(c.getSimpleName());
    must(named.equals(there), "the classes named " + named + " are those inside " + there);
  }
}
