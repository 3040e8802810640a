import java.io.IOException;
import java.lang.reflect.Method;
import java.lang.reflect.Modifier;
import java.nio.file.Files;
import java.nio.file.Path;
import java.util.ArrayList;
import java.util.HashMap;
import java.util.List;
import java.util.Map;
import java.util.TreeSet;
import java.util.regex.Matcher;
import java.util.regex.Pattern;
import java.util.stream.Stream;

/** What README.md shows of the class's use: each call is made as it stands there and must answer as it says there. */
public final class CradleNetsReadme {
  private static final Pattern MADE = Pattern.compile("CradleNets (\\w+) = new CradleNets\\(\\);");
  // Of a call's comment, what stands ahead of a colon is the answer.
  private static final Pattern CALL =
      Pattern.compile("(?:(int|long) (\\w+) = )?(\\w+)\\.(\\w+)\\(([^()]*)\\); +// (-?\\d+|CradleNets\\.[A-Z]+)(?:: .+)?");

  private static final Map<String, CradleNets> objects = new HashMap<>();
  private static final Map<String, Integer> calls = new HashMap<>();
  private static final Map<String, Long> numbers = new HashMap<>();
  private static final TreeSet<String> shown = new TreeSet<>();

  private static int wrong = 0;

  private static void fault(String what) {
    wrong++;
    System.out.println("README.md: " + what);
  }

  private static List<String> shownLines(String readme) {
    List<String> lines = new ArrayList<>();
    Matcher block = Pattern.compile("(?s)```java\n(.*?)```").matcher(readme);
    while (block.find()) for (String line : block.group(1).split("\n")) if (!line.isBlank()) lines.add(line);
    return lines;
  }

  private static void run(String line) throws ReflectiveOperationException {
    Matcher made = MADE.matcher(line);
    if (made.matches()) {
      if (objects.put(made.group(1), new CradleNets()) != null) fault("a name given twice: " + line);
      return;
    }
    Matcher call = CALL.matcher(line);
    if (!call.matches()) { fault("neither a new object nor a call with its answer: " + line); return; }
    CradleNets object = objects.get(call.group(3));
    Method method = methodNamed(call.group(4));
    if (object == null || method == null) { fault("no such object or call: " + line); return; }
    Object[] arguments = argumentsOf(call.group(5));
    if (arguments.length != method.getParameterCount()) { fault("not so many numbers: " + line); return; }
    long got = ((Number) method.invoke(object, arguments)).longValue();
    if (got != numberOf(call.group(6))) fault(line + " .. answered " + got);
    String type = call.group(1);
    if (type != null && !type.equals(method.getReturnType().getName())) fault("not a " + type + ": " + line);
    if (type != null && numbers.put(call.group(2), got) != null) fault("a name given twice: " + line);
    shown.add(method.getName());
    calls.merge(call.group(3), 1, Integer::sum);
  }

  private static Method methodNamed(String name) {
    for (Method m : CradleNets.class.getDeclaredMethods()) {
      if (Modifier.isPublic(m.getModifiers()) && m.getName().equals(name)) return m;
    }
    return null;
  }

  private static Object[] argumentsOf(String list) throws ReflectiveOperationException {
    if (list.isBlank()) return new Object[0];
    String[] texts = list.split(", ");
    Object[] arguments = new Object[texts.length];
    for (int n = 0; n < texts.length; n++) arguments[n] = (int) numberOf(texts[n]);
    return arguments;
  }

  private static long numberOf(String text) throws ReflectiveOperationException {
    if (numbers.containsKey(text)) return numbers.get(text);
    if (text.startsWith("CradleNets.")) return CradleNets.class.getField(text.substring(11)).getInt(null);
    if (text.matches("-?\\d{1,19}")) return Long.parseLong(text);
    fault("no such number: " + text);
    return 0;
  }

  private static void everyCallIsShown() {
    for (Method m : CradleNets.class.getDeclaredMethods()) {
      if (Modifier.isPublic(m.getModifiers()) && !shown.contains(m.getName())) fault("shows no " + m.getName() + "()");
    }
    for (String object : calls.keySet()) if (calls.get(object) > 512) fault("more than 512 calls of " + object);
  }

  // The table has one row for each call, with as many numbers as it takes.
  private static void everyCallHasItsRow(String readme) {
    TreeSet<String> rows = new TreeSet<>();
    Matcher row = Pattern.compile("(?m)^\\| `(\\w+)\\(([^)]*)\\)` \\|").matcher(readme);
    while (row.find()) {
      int takes = row.group(2).isEmpty() ? 0 : row.group(2).split(", ").length;
      if (!rows.add(row.group(1) + " of " + takes)) fault("two rows of " + row.group(1));
    }
    TreeSet<String> face = new TreeSet<>();
    for (Method m : CradleNets.class.getDeclaredMethods()) {
      if (Modifier.isPublic(m.getModifiers())) face.add(m.getName() + " of " + m.getParameterCount());
    }
    if (!rows.equals(face)) fault("the table's calls are " + rows + ", the face's " + face);
  }

  private static void everyTestIsNamed(String readme) throws IOException {
    if (!readme.contains("`.ci/run`")) fault("does not name .ci/run");
    try (Stream<Path> files = Files.list(Path.of("src/test/java"))) {
      for (Path file : files.toList()) {
        String name = file.getFileName().toString().replace(".java", "");
        if (!readme.contains("- `" + name + "`: ")) fault("does not name the test " + name);
      }
    }
    Matcher named = Pattern.compile("(?m)^- `(CradleNets\\w+)`: ").matcher(readme);
    while (named.find()) {
      if (!Files.exists(Path.of("src/test/java", named.group(1) + ".java"))) fault("there is no test " + named.group(1));
    }
  }

  public static void main(String[] args) throws IOException, ReflectiveOperationException {
    String readme = Files.readString(Path.of("README.md"));
    for (String line : shownLines(readme)) run(line);
    everyCallIsShown();
    everyCallHasItsRow(readme);
    everyTestIsNamed(readme);
    System.out.println(wrong == 0 ? "README.md says what the class answers" : wrong + " things are not as README.md says");
    if (wrong != 0) System.exit(1);
  }
}
