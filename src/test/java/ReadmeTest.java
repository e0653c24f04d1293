import java.lang.reflect.Method;
import java.nio.file.Files;
import java.nio.file.Path;
import java.util.HashMap;
import java.util.Map;
import java.util.regex.Matcher;
import java.util.regex.Pattern;

/** The examples of README.md: each call of the blocks of Java, and the answer that stands behind it. */
public final class ReadmeTest {
  private static final Pattern CALL = Pattern.compile("(?:int (\\w+) = )?yard\\.(\\w+)\\((.*?)\\);\\s*// (-?\\d+)(:.*)?");

  public static void main(String[] args) throws Exception {
    BoxYard yard = null;
    Map<String, Integer> names = new HashMap<>();
    int calls = 0;
    boolean code = false;
    for (String line : Files.readAllLines(Path.of("README.md"))) {
      if (line.startsWith("```")) {
        code = line.equals("```java");
      } else if (code && line.equals("BoxYard yard = new BoxYard();")) {
        yard = new BoxYard();
        names.clear();
        names.put("BoxYard.NONE", BoxYard.NONE);
      } else if (code) {
        calls++;
        call(yard, names, line);
      }
    }
    Check.that("README.md has examples", calls > 50);
    Check.end();
  }

  private static void call(BoxYard yard, Map<String, Integer> names, String line) throws Exception {
    Matcher parts = CALL.matcher(line);
    if (!parts.matches()) {
      Check.that("a call with its answer: " + line, false);
      return;
    }
    String[] told = parts.group(3).isEmpty() ? new String[0] : parts.group(3).split(", ");
    Object[] numbers = new Object[told.length];
    for (int i = 0; i < told.length; i++) {
      numbers[i] = names.containsKey(told[i]) ? names.get(told[i]) : Integer.valueOf(told[i]);
    }
    long answer = ((Number) find(parts.group(2), told.length).invoke(yard, numbers)).longValue();
    Check.due(line, answer, Long.parseLong(parts.group(4)));
    if (parts.group(1) != null) names.put(parts.group(1), (int) answer);
  }

  private static Method find(String name, int numbers) throws NoSuchMethodException {
    Class<?>[] ints = new Class<?>[numbers];
    java.util.Arrays.fill(ints, int.class);
    return BoxYard.class.getMethod(name, ints);
  }
}
