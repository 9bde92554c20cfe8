import java.lang.reflect.Method;
import java.nio.file.Files;
import java.nio.file.Path;
import java.util.regex.Matcher;
import java.util.regex.Pattern;

/** README.md tells no answer that doesn't come: its calls are made, one behind the other. */
public final class ReadmeTest {
  /** A call and the answer that is told behind it. */
  private static final Pattern CALL = Pattern.compile("(?m)^gate\\.(\\w+)\\(([^)]*)\\);\\s*// (-?\\d+): ");

  public static void main(String[] args) throws ReflectiveOperationException, java.io.IOException {
    String readme = Files.readString(Path.of("README.md"));
    PatternGate gate = new PatternGate();
    int calls = 0;
    int wrong = 0;
    Matcher matcher = CALL.matcher(readme);
    while (matcher.find()) {
      calls++;
      int got = answer(gate, matcher.group(1), matcher.group(2));
      if (got != Integer.parseInt(matcher.group(3))) {
        wrong++;
        System.out.println("ReadmeTest: " + matcher.group() + "answered " + got);
      }
    }
    int told = readme.split("(?m)^gate\\.", -1).length - 1;
    if (calls == 0 || calls != told) {
      wrong++;
      System.out.println("ReadmeTest: " + told + " calls, " + calls + " with an answer");
    }
    System.out.println("ReadmeTest: " + calls + " calls, " + wrong + " wrong");
    if (wrong != 0) System.exit(1);
  }

  private static int answer(PatternGate gate, String name, String told) throws ReflectiveOperationException {
    String[] numbers = told.isBlank() ? new String[0] : told.split(",");
    Object[] arguments = new Object[numbers.length];
    Class<?>[] types = new Class<?>[numbers.length];
    for (int i = 0; i < numbers.length; i++) {
      arguments[i] = Integer.decode(numbers[i].trim());
      types[i] = int.class;
    }
    Method call = PatternGate.class.getMethod(name, types);
    return (Integer) call.invoke(gate, arguments);
  }
}
