import java.io.IOException;
import java.lang.reflect.InvocationTargetException;
import java.lang.reflect.Method;
import java.lang.reflect.Modifier;
import java.nio.file.Files;
import java.nio.file.Path;
import java.util.Set;
import java.util.TreeSet;
import java.util.regex.Matcher;
import java.util.regex.Pattern;

/** Makes the calls that README.md shows, line by line, and holds them to the answers that it tells. */
public final class Readme extends CallTest {
  private static final Pattern MADE = Pattern.compile("LandByMap x = new LandByMap\\(\\);.*");
  private static final Pattern TEXT = Pattern.compile("text\\(x, (\\d+), \"([^\"]*)\"\\);");
  private static final Pattern ROW = Pattern.compile("row\\(x, (\\d+), (\\d+), ([-\\d, ]+)\\);");
  private static final Pattern CALL = Pattern.compile("x\\.(\\w+)\\(([^)]*)\\);\\s*// (-?\\d+|\\w+Exception)(:.*)?");
  private static int lines = 0;

  public static void main(String[] args) throws IOException, IllegalAccessException {
    String readme = Files.readString(Path.of("README.md"));
    Set<String> shown = new TreeSet<>();
    boolean inCode = false;
    for (String line : readme.split("\n")) {
      if (line.startsWith("```")) {
        inCode = line.equals("```java");
      } else if (inCode && (line.startsWith("x.") || line.startsWith("text(") || line.startsWith("row(") || MADE.matcher(line).matches())) {
        shown.add(make(line));
        lines++;
      }
    }
    of(0);
    due("lines of README.md that were made, more than 50", lines > 50 ? 1 : 0, 1);
    for (Method call : LandByMap.class.getDeclaredMethods()) {
      if (Modifier.isPublic(call.getModifiers())) {
        String name = call.getName();
        due("README.md shows " + name, shown.contains(name) ? 1 : 0, 1);
        due("README.md tells of " + name, readme.contains("| `" + name + "(") ? 1 : 0, 1);
      }
    }
    end(lines + " lines of README.md hold");
  }

  /** Makes one line: the name of what it called. */
  private static String make(String line) throws IllegalAccessException {
    if (MADE.matcher(line).matches()) {
      x = new LandByMap();
      return "new";
    }
    Matcher text = TEXT.matcher(line);
    if (text.matches()) {
      String signs = text.group(2);
      int[] bytes = new int[signs.length()];
      for (int i = 0; i < bytes.length; i++) {
        bytes[i] = signs.charAt(i);
      }
      row(Integer.parseInt(text.group(1)), 0, bytes);
      return "text";
    }
    Matcher row = ROW.matcher(line);
    if (row.matches()) {
      row(Integer.parseInt(row.group(1)), Integer.parseInt(row.group(2)), numbers(row.group(3)));
      return "row";
    }
    Matcher call = CALL.matcher(line);
    due("README.md: it can be made: " + line, call.matches() ? 1 : 0, 1);
    if (call.matches()) {
      String got = answer(call.group(1), call.group(2).isEmpty() ? new String[0] : call.group(2).split(", "));
      same("README.md: " + line, got, call.group(3));
      return call.group(1);
    }
    return "";
  }

  private static int[] numbers(String list) {
    String[] parts = list.split(", ");
    int[] numbers = new int[parts.length];
    for (int i = 0; i < parts.length; i++) {
      numbers[i] = Integer.parseInt(parts[i]);
    }
    return numbers;
  }

  private static String answer(String name, String[] given) throws IllegalAccessException {
    for (Method call : LandByMap.class.getMethods()) {
      if (!call.getName().equals(name) || call.getParameterCount() != given.length) {
        continue;
      }
      Object[] handed = new Object[given.length];
      for (int i = 0; i < given.length; i++) {
        handed[i] = call.getParameterTypes()[i] == boolean.class ? (Object) Boolean.valueOf(given[i]) : (Object) Integer.valueOf(given[i]);
      }
      try {
        return call.invoke(x, handed).toString();
      } catch (InvocationTargetException thrown) {
        return thrown.getCause().getClass().getSimpleName();
      }
    }
    return "no such call";
  }
}
