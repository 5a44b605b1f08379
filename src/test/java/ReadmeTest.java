import java.io.IOException;
import java.lang.reflect.Method;
import java.lang.reflect.Modifier;
import java.nio.file.Files;
import java.nio.file.Path;
import java.util.Map;
import java.util.TreeMap;
import java.util.regex.Matcher;
import java.util.regex.Pattern;

/** README.md: its calls answer as it says, and it tells of each call, of what they are REFUSED by, and of each test. */
public final class ReadmeTest {
  private static final Check check = new Check();
  private static final Pattern CALL = Pattern.compile("x\\.(\\w+)\\((.*)\\); *// (-?\\d+)(: .*)?");

  private static Map<String, Method> face() {
    Map<String, Method> face = new TreeMap<>();
    for (Method m : MoodSlips.class.getDeclaredMethods()) if (Modifier.isPublic(m.getModifiers())) face.put(m.getName(), m);
    return face;
  }

  private static Object[] numbers(String text) {
    if (text.isEmpty()) return new Object[0];
    String[] parts = text.split(", ");
    Object[] numbers = new Object[parts.length];
    for (int i = 0; i < parts.length; i++) numbers[i] = Integer.decode(parts[i]);
    return numbers;
  }

  /** The calls of the block of Java, one behind the other on one object. */
  private static void example(String page) throws ReflectiveOperationException {
    int from = page.indexOf("```java\n") + 8;
    String[] lines = page.substring(from, page.indexOf("```", from)).split("\n");
    check.due("first line", lines[0], "MoodSlips x = new MoodSlips();");
    MoodSlips x = new MoodSlips();
    for (int i = 1; i < lines.length; i++) {
      Matcher call = CALL.matcher(lines[i]);
      check.due("a call and its answer: " + lines[i], call.matches() ? 1 : 0, 1);
      if (!call.matches()) continue;
      Method method = face().get(call.group(1));
      check.due("a call of the face: " + lines[i], method != null ? 1 : 0, 1);
      if (method == null) continue;
      int answer = (Integer) method.invoke(x, numbers(call.group(2)));
      check.due(lines[i], answer, Integer.parseInt(call.group(3)));
    }
  }

  /** Each call stands in the table with as many numbers as it takes. */
  private static void calls(String page) {
    for (Method m : face().values()) {
      Matcher told = Pattern.compile("(?m)^\\|.*`" + m.getName() + "\\(([^)]*)\\)`.*\\|$").matcher(page);
      boolean isTold = told.find();
      check.due(m.getName() + " is told", isTold ? 1 : 0, 1);
      if (!isTold) continue;
      int numbers = told.group(1).isEmpty() ? 0 : told.group(1).split(", ").length;
      check.due("numbers of " + m.getName(), numbers, m.getParameterCount());
    }
  }

  private static void refusals(String page) {
    int[] reasons = {-1, -2, -3, -5, -6};
    for (int i = 0; i < reasons.length; i++) {
      boolean isTold = Pattern.compile("(?m)^\\| `" + reasons[i] + "` \\|.+\\| " + (5 + i) + " \\|$").matcher(page).find();
      check.due("refused by " + reasons[i] + " is told", isTold ? 1 : 0, 1);
    }
    check.due("NONE is told", page.contains("`NONE` (-1)") ? 1 : 0, 1);
  }

  private static void tests(String page) throws IOException {
    try (var files = Files.list(Path.of("src/test/java"))) {
      for (Path file : files.toList()) {
        String name = file.getFileName().toString().replace(".java", "");
        check.due(name + " is told", page.contains("\n| `" + name + "` |") ? 1 : 0, 1);
      }
    }
    check.due("how they are run is told", page.contains("`.ci/run`") ? 1 : 0, 1);
  }

  public static void main(String[] args) throws IOException, ReflectiveOperationException {
    String page = Files.readString(Path.of("README.md"));
    example(page);
    calls(page);
    refusals(page);
    tests(page);
    check.finish();
  }
}
