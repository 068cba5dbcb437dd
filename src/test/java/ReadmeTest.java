import java.io.IOException;
import java.lang.reflect.Method;
import java.lang.reflect.Modifier;
import java.nio.file.Files;
import java.nio.file.Path;
import java.util.regex.Matcher;
import java.util.regex.Pattern;

/** What README.md says of its table is so; the path of the class is the argument. */
public final class ReadmeTest extends Checks {
  private static final Pattern CALL =
      Pattern.compile("(?m)^x\\.(\\w+)\\(([^)]*)\\); +// (-?\\d+)\\b");
  private static final int FEWEST_CALLS = 20;

  private static String between(String text, String begin, String end) {
    int from = text.indexOf(begin) + begin.length();
    return text.substring(from, text.indexOf(end, from));
  }

  private static int call(ProvedTable x, String name, String[] numbers)
      throws ReflectiveOperationException {
    for (Method method : ProvedTable.class.getDeclaredMethods()) {
      if (Modifier.isPublic(method.getModifiers()) && method.getName().equals(name)) {
        Object[] arguments = new Object[method.getParameterCount()];
        for (int i = 0; i < arguments.length; i++) {
          boolean isLong = method.getParameterTypes()[i] == long.class;
          arguments[i] = isLong ? (Object) Long.parseLong(numbers[i]) : Integer.parseInt(numbers[i]);
        }
        return (int) method.invoke(x, arguments);
      }
    }
    throw new NoSuchMethodException(name);
  }

  public static void main(String[] args) throws IOException, ReflectiveOperationException {
    Path root = Path.of(args[0]).toAbsolutePath().getParent().resolve("../../..").normalize();
    String page = Files.readString(root.resolve("README.md"));
    ProvedTable x = told(between(page, "```text\n", "```"));
    int calls = 0;
    Matcher matcher = CALL.matcher(page);
    while (matcher.find()) {
      int answer = call(x, matcher.group(1), matcher.group(2).split(", "));
      due("README.md: " + matcher.group().trim(), answer, Integer.parseInt(matcher.group(3)));
      calls++;
    }
    due("README.md has calls enough", Math.min(calls, FEWEST_CALLS), FEWEST_CALLS);
    finish();
  }
}
