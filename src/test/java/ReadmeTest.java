import java.io.IOException;
import java.lang.reflect.Method;
import java.lang.reflect.Modifier;
import java.nio.file.Files;
import java.nio.file.Path;
import java.util.HashSet;
import java.util.Set;
import java.util.regex.Matcher;
import java.util.regex.Pattern;

/** Makes the calls of README.md: each answers what is told there, and each method is called. */
public final class ReadmeTest {
  private static final String MAKE = "RelayBank bank = new RelayBank();";
  private static final Pattern CALL =
      Pattern.compile("bank\\.(\\w+)\\(([^()]*)\\); +// (-?\\d+)(:.*)?");
  private static final Pattern TYPE = Pattern.compile("type\\(bank, \"([^\"]*)\"\\);");
  private static final Check check = new Check("ReadmeTest");
  private static final Set<String> called = new HashSet<>();

  public static void main(String[] args) throws IOException, ReflectiveOperationException {
    RelayBank bank = null;
    boolean isCode = false;
    for (String line : Files.readAllLines(Path.of("README.md"))) {
      if (line.startsWith("```")) {
        isCode = line.equals("```java");
        bank = null;
      } else if (isCode && line.equals(MAKE)) {
        bank = new RelayBank();
      } else if (bank != null && !line.strip().startsWith("//")) {
        make(bank, line);
      }
    }
    for (Method method : RelayBank.class.getDeclaredMethods()) {
      if (Modifier.isPublic(method.getModifiers())) {
        check.due(method.getName() + "() is shown", called.contains(method.getName()) ? 1 : 0, 1);
      }
    }
    check.end();
  }

  private static void make(RelayBank bank, String line) throws ReflectiveOperationException {
    Matcher call = CALL.matcher(line);
    Matcher type = TYPE.matcher(line);
    if (call.matches()) {
      int got = answer(bank, call.group(1), call.group(2));
      check.due(line, got, Integer.parseInt(call.group(3)));
      called.add(call.group(1));
    } else if (type.matches()) {
      Check.type(bank, type.group(1));
    } else {
      check.due("\"" + line + "\" can be read", 0, 1);
    }
  }

  private static int answer(RelayBank bank, String name, String told)
      throws ReflectiveOperationException {
    String[] words = told.isEmpty() ? new String[0] : told.split(", ");
    Class<?>[] types = new Class<?>[words.length];
    Object[] arguments = new Object[words.length];
    for (int i = 0; i < words.length; i++) {
      types[i] = int.class;
      arguments[i] = words[i].startsWith("'") ? (int) words[i].charAt(1) : Integer.parseInt(words[i]);
    }
    return (int) RelayBank.class.getMethod(name, types).invoke(bank, arguments);
  }
}
