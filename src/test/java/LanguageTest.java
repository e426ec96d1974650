import java.lang.reflect.Field;
import java.lang.reflect.Member;
import java.lang.reflect.Method;
import java.lang.reflect.Modifier;
import java.nio.charset.StandardCharsets;
import java.nio.file.Files;
import java.nio.file.Path;
import java.util.HashMap;
import java.util.Map;
import java.util.Set;
import java.util.TreeSet;
import java.util.regex.Matcher;
import java.util.regex.Pattern;

/** The face of the class, the rules of ../shared/LANGUAGE.md that a program can look at, the room. */
public final class LanguageTest {
  private static final Check check = new Check("LanguageTest");
  private static final String[] FORBIDDEN = {
    "package", "import", "throw", "throws", "try", "catch", "finally", "synchronized", "assert",
    "volatile", "transient", "native", "strictfp", "instanceof", "protected", "Object", "Exception",
    "System\\.(?!arraycopy)\\w+", "\\w+Exact", "equals", "hashCode", "toString", "Thread", "Random",
  };
  private static final String[] METHODS = {
    "addRelay 3", "setDelays 4", "setCondition 4", "removeBranch 2", "appendCharacter 1",
    "clearText 0", "load 1", "press 2", "setFault 2", "stick 2", "step 0", "settle 1", "pass 1",
    "count 1", "relay 2", "condition 3", "event 2", "outcome 2", "isRace 0", "raceBy 1",
    "hazards 1", "stableStates 0", "explain 1", "undo 0",
  };

  public static void main(String[] args) throws Exception {
    constants();
    face();
    classesInside();
    source();
    room();
    check.end();
  }

  private static void constants() {
    check.due("INVALID_ARGUMENT", RelayBank.INVALID_ARGUMENT, -1);
    check.due("ILLEGAL_STATE", RelayBank.ILLEGAL_STATE, -2);
    check.due("CAPACITY_EXCEEDED", RelayBank.CAPACITY_EXCEEDED, -3);
    check.due("NONE", RelayBank.NONE, -9);
  }

  private static void dueText(String what, Object got, Object want) {
    check.due(what + ": " + got + ", due is " + want, got.equals(want) ? 1 : 0, 1);
  }

  private static void face() {
    Class<?> face = RelayBank.class;
    check.due("public and final", face.getModifiers(), Modifier.PUBLIC | Modifier.FINAL);
    check.due("one constructor", face.getDeclaredConstructors().length, 1);
    check.due("it is public", face.getConstructors().length, 1);
    check.due("no interface", face.getInterfaces().length, 0);
    Set<String> seen = new TreeSet<>();
    Set<String> hidden = new TreeSet<>();
    for (Method method : face.getDeclaredMethods()) {
      isPublicOrPrivate(method);
      if (Modifier.isPublic(method.getModifiers())) {
        dueText(method.getName(), method.getReturnType(), int.class);
        seen.add(method.getName() + " " + method.getParameterCount());
      } else {
        hidden.add(method.getName());
      }
    }
    dueText("methods", seen, new TreeSet<>(Set.of(METHODS)));
    for (String method : METHODS) {
      check.due("private " + method, hidden.contains(method.split(" ")[0]) ? 1 : 0, 0);
    }
    Set<String> constants = new TreeSet<>();
    for (Field field : face.getDeclaredFields()) {
      isPublicOrPrivate(field);
      if (Modifier.isPublic(field.getModifiers())) {
        constants.add(field.getName());
      }
    }
    dueText("constants", constants, new TreeSet<>(
        Set.of("INVALID_ARGUMENT", "ILLEGAL_STATE", "CAPACITY_EXCEEDED", "NONE")));
  }

  private static void isPublicOrPrivate(Member member) {
    boolean is = (member.getModifiers() & (Modifier.PUBLIC | Modifier.PRIVATE)) != 0;
    check.due(member.getName() + " is public or private", is ? 1 : 0, 1);
  }

  private static void classesInside() {
    Class<?>[] inside = RelayBank.class.getDeclaredClasses();
    check.due("at most twelve classes", inside.length < 12 ? 1 : 0, 1);
    for (Class<?> one : inside) {
      check.due(one + " is static", Modifier.isStatic(one.getModifiers()) ? 1 : 0, 1);
      int fields = 0;
      for (Field field : one.getDeclaredFields()) {
        boolean isStatic = Modifier.isStatic(field.getModifiers());
        check.due(field + " is no static variable",
            isStatic && !Modifier.isFinal(field.getModifiers()) ? 1 : 0, 0);
        fields += isStatic ? 0 : 1;
      }
      check.due(one + " has at most twenty fields", fields <= 20 ? 1 : 0, 1);
    }
  }

  private static void source() throws Exception {
    Path path = Path.of("src/main/java/RelayBank.java");
    byte[] bytes = Files.readAllBytes(path);
    int strange = 0;
    for (byte b : bytes) {
      strange += b == '\n' || (b >= 32 && b < 127) ? 0 : 1;
    }
    check.due("strange signs of the source", strange, 0);
    String code = new String(bytes, StandardCharsets.US_ASCII)
        .replaceAll("(?s)/\\*.*?\\*/", "").replaceAll("//[^\n]*", "");
    for (String word : FORBIDDEN) {
      Matcher matcher = Pattern.compile("\\b(" + word + ")\\b").matcher(code);
      check.due("uses of " + word, matcher.find() ? 1 : 0, 0);
    }
    methods(code);
    check.due("lambdas and method references", code.contains("->") || code.contains("::") ? 1 : 0, 0);
    check.due("joined texts", code.contains("\"") ? 1 : 0, 0);
  }

  /** Short methods of few parameters, whose calls go at most eight deep and never in a ring. */
  private static void methods(String code) {
    Map<String, String> bodies = new HashMap<>();
    String type = "(?:(?:void|int|boolean|char|[A-Z]\\w+)(?:\\[\\])? )?";
    Matcher declared = Pattern.compile(
        "\n +(?:public |private |static )*" + type + "(\\w+)\\(([^()]*)\\) \\{\n").matcher(code);
    while (declared.find()) {
      String name = declared.group(1);
      if (!name.matches("if|for|while|switch")) {
        int end = endOfBlock(code, declared.end());
        String body = code.substring(declared.end(), end);
        check.due(name + " has at most sixty lines", body.split("\n").length <= 60 ? 1 : 0, 1);
        check.due(name + " has at most seven parameters",
            declared.group(2).split(",").length <= 7 ? 1 : 0, 1);
        check.due("two methods have the name " + name, bodies.containsKey(name) ? 1 : 0, 0);
        bodies.put(name, body);
      }
    }
    check.due("methods found", bodies.size() > METHODS.length ? 1 : 0, 1);
    for (String name : bodies.keySet()) {
      int deep = depth(name, bodies, 0);
      check.due(name + " goes " + deep + " deep, at most eight", deep <= 8 ? 1 : 0, 1);
    }
  }

  private static int endOfBlock(String code, int start) {
    int open = 1;
    int at = start;
    while (open > 0) {
      open += code.charAt(at) == '{' ? 1 : code.charAt(at) == '}' ? -1 : 0;
      at++;
    }
    return at;
  }

  private static int depth(String name, Map<String, String> bodies, int above) {
    int deepest = 0;
    Matcher called = Pattern.compile("\\b(\\w+)\\(").matcher(bodies.get(name));
    while (above < 20 && called.find()) {
      if (bodies.containsKey(called.group(1))) {
        deepest = Math.max(deepest, depth(called.group(1), bodies, above + 1));
      }
    }
    return deepest + 1;
  }

  /** Calls make nothing: all that a bank needs is made by its constructor. */
  private static void room() {
    com.sun.management.ThreadMXBean threads =
        (com.sun.management.ThreadMXBean) java.lang.management.ManagementFactory.getThreadMXBean();
    long thread = Thread.currentThread().getId();
    allCalls(new RelayBank());
    RelayBank bank = new RelayBank();
    long before = threads.getThreadAllocatedBytes(thread);
    allCalls(bank);
    long made = threads.getThreadAllocatedBytes(thread) - before;
    // Asking for the bytes makes some itself; the calls are more than 1200.
    check.due(made + " bytes made: less than one a call", made < 1200 ? 1 : 0, 1);
  }

  private static void allCalls(RelayBank x) {
    for (int i = 0; i < 20; i++) {
      x.addRelay(2, 3, 1);
      x.setDelays(i, 3, 2, 1);
      x.appendCharacter('/');
      x.appendCharacter('A' + i);
      x.load(i);
      x.clearText();
      x.setCondition(0, i, i, 1 + i % 2);
      x.removeBranch(0, 5);
      x.press(i, 1);
      x.setFault(7, i);
      x.stick(6, 1);
      x.step();
      x.settle(20 * i);
      x.pass(i);
      x.outcome(i % 2, 200);
      x.isRace();
      x.raceBy(i);
      x.hazards(i);
      x.stableStates();
      x.explain(i);
      for (int what = -1; what < 11; what++) {
        x.count(what);
        x.relay(i, what);
        x.condition(i, 0, what);
        x.event(what, i % 3);
      }
      x.undo();
    }
  }
}
