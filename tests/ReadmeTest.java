import java.io.IOException;
import java.lang.reflect.InvocationTargetException;
import java.lang.reflect.Method;
import java.nio.file.Files;
import java.nio.file.Path;
import java.util.HashMap;
import java.util.List;
import java.util.Map;
import java.util.regex.Matcher;
import java.util.regex.Pattern;

/** The example of README.md: its calls are made as they stand there, and answer what stands behind them. */
final class ReadmeTest {
  private static final Pattern NEW = Pattern.compile("PrimePlane plane = new PrimePlane\\(\\); .*");
  private static final Pattern CALL = Pattern.compile("(?:int (\\w+) = )?plane\\.(\\w+)\\((.*?)\\); *(.*)");
  private static final Pattern DUE = Pattern.compile("// (?:throws (\\w+)|(-?\\d+)): .*|// (-?\\d+)");

  private final PrimePlane plane = new PrimePlane();
  private final Map<String, Integer> names = new HashMap<>();

  public static void main(String[] args) throws IOException {
    List<String> lines = Files.readAllLines(Path.of("README.md"));
    int start = lines.indexOf("```java");
    int end = start < 0 ? -1 : start + lines.subList(start, lines.size()).indexOf("```");
    Due.is("README.md has an example", 1, () -> start >= 0 && end > start + 1 ? 1 : 0);
    Due.is("it begins with a new plane", 1, () -> NEW.matcher(lines.get(start + 1)).matches() ? 1 : 0);
    ReadmeTest test = new ReadmeTest();
    for (String line : lines.subList(start + 2, end)) {
      test.call(line);
    }
    Due.end();
  }

  private void call(String line) {
    Matcher call = CALL.matcher(line);
    if (!call.matches()) {
      Due.tell("README.md: no call is told by " + line);
      return;
    }
    String answer = answerOf(call.group(2), call.group(3));
    if (call.group(1) != null) {
      Due.is(line + " answered " + answer, 1, () -> answer.matches("\\d+") ? 1 : 0);
      names.put(call.group(1), Integer.valueOf(answer));
      return;
    }
    Matcher due = DUE.matcher(call.group(4));
    Due.is(line + " answered " + answer, 1, () -> due.matches()
        && (answer.equals(due.group(1)) || answer.equals(due.group(2)) || answer.equals(due.group(3))) ? 1 : 0);
  }

  /** The answer of the call, or the name of the exception that it throws. */
  private String answerOf(String name, String arguments) {
    String[] told = arguments.isEmpty() ? new String[0] : arguments.split(", ");
    Object[] given = new Object[told.length];
    for (int i = 0; i < told.length; i++) {
      given[i] = names.containsKey(told[i]) ? names.get(told[i]) : Integer.valueOf(told[i]);
    }
    try {
      return String.valueOf(methodOf(name).invoke(plane, given));
    } catch (InvocationTargetException e) {
      return e.getCause().getClass().getSimpleName();
    } catch (IllegalAccessException e) {
      throw new IllegalStateException(e);
    }
  }

  private static Method methodOf(String name) {
    for (Method m : PrimePlane.class.getMethods()) {
      if (m.getName().equals(name)) {
        return m;
      }
    }
    throw new IllegalStateException("README.md calls " + name);
  }
}
